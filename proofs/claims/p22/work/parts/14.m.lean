section
/-! ===== methods of which nothing_w is_w asked_w but that nothing_w is_w made_w ===== -/
def tpE (F : Nat → Bool) : SX → Bool
  | .op (.var t) (.op a (.op b c)) => match t with
    | 1 => true
    | 3 => true
    | 4 => tpE F a
    | 5 => tpE F a
    | 7 => tpE F a && tpE F b && decide (sx_n c ≠ 1)
    | 10 => tpE F a && decide (sx_n c ≠ 1)
    | 13 => tpE F a
    | 14 => tpE F a && tpE F b
    | 15 => tpE F a && tpE F b
    | 16 => tpE F a && tpE F b
    | 17 => tpE F a && tpE F b
    | 18 => tpE F a
    | 20 => tpE F a && tpE F b
    | 21 => tpE F a
    | 22 => tpE F a && tpE F b
    | 23 => tpE F a && tpE F b
    | 24 => tpE F a
    | 25 => tpE F a && tpE F b
    | 26 => tpE F a && tpE F b
    | 27 => tpE F a
    | 28 => tpE F a && tpE F b && tpE F c
    | 30 => tpE F a && tpE F b
    | 31 => true
    | 32 => tpE F a && F (sx_n b)
    | _ => false
  | _ => false
def tpS (F : Nat → Bool) : SX → Bool
  | .op (.var t) (.op a (.op b c)) => match t with
    | 1 => true
    | 2 => tpS F a && tpS F b
    | 3 => tpE F b
    | 4 => true
    | 5 => tpE F a && tpE F b
    | 6 => tpE F a && tpE F b
    | 7 => tpE F a && tpE F b && (match c with
      | .op (.var _) v => tpE F v
      | _ => false)
    | 8 => tpE F a && tpE F b && (match c with
      | .op (.var _) v => tpE F v
      | _ => false)
    | 9 => tpE F a
    | 10 => tpE F a && tpS F b
    | 11 => tpE F a && tpS F b && tpS F c
    | 12 => tpE F a && tpS F b && tpS F c
    | 13 => tpE F a && tpS F b
    | 14 => true
    | 15 => true
    | 16 => tpE F a
    | 27 => tpE F a
    | 17 => true
    | 18 => true
    | 19 => tpE F a && tpS F b
    | 20 => tpS F a
    | 22 => true
    | 23 => tpE F a && tpE F b
    | 28 => tpE F a && tpS F b
    | 25 => tpS F b && tpS F c
    | 26 => tpS F a
    | _ => false
  | _ => false
section TOP
variable {C : CSt} {F : Nat → Bool}
def TpC (C : CSt) (F : Nat → Bool) : Prop := ∀ f, F f = true → ∀ (av : List Int) (h : XH) (Q : Nat → List Int → XH → Prop), (∀ k r h', Q k r h') → C f av h Q
theorem bnd {a b : Bool} (h : (a && b) = true) : a = true ∧ b = true := by
  rw [Bool.and_eq_true] at h
  exact h
theorem tpE_ok (hC : TpC C F) : ∀ t : SX, tpE F t = true → (∀ en h (Q : PQQ), (∀ x h', Q x h') → (pP C t).1 en h Q) ∧ (∀ en h (Qt Qf : XH → Prop), (∀ h', Qt h') → (∀ h', Qf h') → (pP C t).2 en h Qt Qf)
  | .op (.var t) (.op a (.op b c)), e => by
    have ia := tpE_ok hC a
    have ib := tpE_ok hC b
    have ic := tpE_ok hC c
    have hE : ∀ en h (Q : PQQ), (∀ x h', Q x h') → pNE C t a b c (pP C a) (pP C b) (pP C c) en h Q := by
      intro en h Q hQ
      unfold tpE at e
      unfold pNE
      split at e
      · exact hQ _ _
      · exact hQ _ _
      · exact (ia e).1 _ _ _ fun x h1 => hQ _ _
      · exact (ia e).1 _ _ _ fun x h1 => hQ _ _
      · obtain ⟨e1_w, e2_w⟩ := bnd e
        obtain ⟨e1_w, e3_w⟩ := bnd e1_w
        refine (ia e1_w).1 _ _ _ fun x h1 => (ib e3_w).1 _ _ _ fun y h2 => ?_
        have e2' := of_decide_eq_true e2_w
        show p_ld _ _ _ _ _
        unfold p_ld
        split
        · exact fun _ => hQ _ _
        · rename_i z; exact absurd z e2'
        · exact fun _ => hQ _ _
      · obtain ⟨e1_w, e2_w⟩ := bnd e
        refine (ia e1_w).1 _ _ _ fun x h1 => ?_
        have e2' := of_decide_eq_true e2_w
        show p_ln _ _ _ _
        unfold p_ln
        split
        · exact hQ _ _
        · rename_i z; exact absurd z e2'
        · exact hQ _ _
      · exact (ia e).1 _ _ _ fun x h1 => hQ _ _
      · obtain ⟨e1_w, e2_w⟩ := bnd e
        exact (ia e1_w).1 _ _ _ fun x h1 => (ib e2_w).1 _ _ _ fun y h2 => hQ _ _
      · obtain ⟨e1_w, e2_w⟩ := bnd e
        exact (ia e1_w).1 _ _ _ fun x h1 => (ib e2_w).1 _ _ _ fun y h2 => hQ _ _
      · obtain ⟨e1_w, e2_w⟩ := bnd e
        exact (ia e1_w).1 _ _ _ fun x h1 => (ib e2_w).1 _ _ _ fun y h2 => hQ _ _
      · obtain ⟨e1_w, e2_w⟩ := bnd e
        exact (ia e1_w).1 _ _ _ fun x h1 => (ib e2_w).1 _ _ _ fun y h2 _ => hQ _ _
      · exact (ia e).1 _ _ _ fun x h1 => hQ _ _
      · obtain ⟨e1_w, e2_w⟩ := bnd e
        exact (ia e1_w).1 _ _ _ fun x h1 => (ib e2_w).1 _ _ _ fun y h2 => ⟨fun _ => hQ _ _, fun _ => hQ _ _⟩
      · exact (ia e).1 _ _ _ fun x h1 => ⟨fun _ => hQ _ _, fun _ => hQ _ _⟩
      · obtain ⟨e1_w, e2_w⟩ := bnd e
        exact (ia e1_w).1 _ _ _ fun x h1 => (ib e2_w).1 _ _ _ fun y h2 => ⟨fun _ => hQ _ _, fun _ => hQ _ _⟩
      · obtain ⟨e1_w, e2_w⟩ := bnd e
        exact (ia e1_w).1 _ _ _ fun x h1 => (ib e2_w).1 _ _ _ fun y h2 => ⟨fun _ => hQ _ _, fun _ => hQ _ _⟩
      · exact (ia e).1 _ _ _ hQ
      · obtain ⟨e1_w, e2_w⟩ := bnd e
        exact (ia e1_w).2 _ _ _ _ (fun h1 => (ib e2_w).2 _ _ _ _ (fun _ => hQ _ _) (fun _ => hQ _ _)) (fun _ => hQ _ _)
      · obtain ⟨e1_w, e2_w⟩ := bnd e
        exact (ia e1_w).2 _ _ _ _ (fun _ => hQ _ _) (fun h1 => (ib e2_w).2 _ _ _ _ (fun _ => hQ _ _) (fun _ => hQ _ _))
      · exact (ia e).2 _ _ _ _ (fun _ => hQ _ _) (fun _ => hQ _ _)
      · obtain ⟨e1_w, e2_w⟩ := bnd e
        obtain ⟨e1_w, e3_w⟩ := bnd e1_w
        exact (ia e1_w).2 _ _ _ _ (fun h1 => (ib e3_w).1 _ _ _ hQ) (fun h1 => (ic e2_w).1 _ _ _ hQ)
      · obtain ⟨e1_w, e2_w⟩ := bnd e
        exact (ia e1_w).1 _ _ _ fun x h1 => (ib e2_w).1 _ _ _ fun y h2 => hQ _ _
      · exact hQ _ _
      · obtain ⟨e1_w, e2_w⟩ := bnd e
        exact (ia e1_w).1 _ _ _ fun x h1 => hC _ e2_w _ _ _ fun k r h2 _ => hQ _ _
      · cases e
    refine ⟨hE, ?_⟩
    intro en h Qt Qf ht hf
    show pNC C t a b c (pP C a) (pP C b) (pP C c) en h Qt Qf
    have hz : p_nz (pNE C t a b c (pP C a) (pP C b) (pP C c)) en h Qt Qf := hE en h _ fun x h1 => ⟨fun _ => ht _, fun _ => hf _⟩
    unfold tpE at e
    unfold pNC
    split at e
    any_goals exact hz
    · obtain ⟨e1_w, e2_w⟩ := bnd e
      exact (ia e1_w).1 _ _ _ fun x h1 => (ib e2_w).1 _ _ _ fun y h2 => ⟨fun _ => ht _, fun _ => hf _⟩
    · exact (ia e).1 _ _ _ fun x h1 => ⟨fun _ => ht _, fun _ => hf _⟩
    · obtain ⟨e1_w, e2_w⟩ := bnd e
      exact (ia e1_w).1 _ _ _ fun x h1 => (ib e2_w).1 _ _ _ fun y h2 => ⟨fun _ => ht _, fun _ => hf _⟩
    · obtain ⟨e1_w, e2_w⟩ := bnd e
      exact (ia e1_w).1 _ _ _ fun x h1 => (ib e2_w).1 _ _ _ fun y h2 => ⟨fun _ => ht _, fun _ => hf _⟩
    · exact (ia e).2 _ _ _ _ ht hf
    · obtain ⟨e1_w, e2_w⟩ := bnd e
      exact (ia e1_w).2 _ _ _ _ (fun h1 => (ib e2_w).2 _ _ _ _ ht hf) hf
    · obtain ⟨e1_w, e2_w⟩ := bnd e
      exact (ia e1_w).2 _ _ _ _ ht (fun h1 => (ib e2_w).2 _ _ _ _ ht hf)
    · exact (ia e).2 _ _ _ _ hf ht
    · cases e
  | .var _, e => by cases e
  | .op (.op _ _) _, e => by cases e
  | .op (.var _) (.var _), e => by cases e
  | .op (.var _) (.op _ (.var _)), e => by cases e
theorem tpS_ok (hC : TpC C F) : ∀ t : SX, tpS F t = true → ∀ en h (R : PRR), (∀ c vs en' h', R c vs en' h') → pS C t en h R
  | .op (.var t) (.op a (.op b c)), e => by
    have ia := tpS_ok hC a
    have ib := tpS_ok hC b
    have ic := tpS_ok hC c
    have xe := fun t z => (tpE_ok hC t z).1
    have xc := fun t z => (tpE_ok hC t z).2
    intro en h R hR
    show pNS C t a b c (pS C a) (pS C b) (pS C c) en h R
    unfold tpS at e
    unfold pNS
    split at e
    · exact hR _ _ _ _
    · obtain ⟨e1_w, e2_w⟩ := bnd e
      exact ia e1_w _ _ _ fun c vs en1 h1 => ⟨fun _ => ib e2_w _ _ _ hR, fun _ => hR _ _ _ _⟩
    · exact xe _ e _ _ _ fun x h1 => hR _ _ _ _
    · exact hR _ _ _ _
    · obtain ⟨e1_w, e2_w⟩ := bnd e
      exact xe _ e1_w _ _ _ fun x h1 => xe _ e2_w _ _ _ fun y h2 => hR _ _ _ _
    · obtain ⟨e1_w, e2_w⟩ := bnd e
      exact xe _ e1_w _ _ _ fun x h1 => xe _ e2_w _ _ _ fun y h2 => hR _ _ _ _
    · obtain ⟨e1_w, e2_w⟩ := bnd e
      obtain ⟨e1_w, e3_w⟩ := bnd e1_w
      split at e2_w
      · exact xe _ e1_w _ _ _ fun x h1 => xe _ e3_w _ _ _ fun y h2 => xe _ e2_w _ _ _ fun z h3 _ => hR _ _ _ _
      · cases e2_w
    · obtain ⟨e1_w, e2_w⟩ := bnd e
      obtain ⟨e1_w, e3_w⟩ := bnd e1_w
      split at e2_w
      · exact xe _ e1_w _ _ _ fun x h1 => xe _ e3_w _ _ _ fun y h2 => xe _ e2_w _ _ _ fun z h3 _ => hR _ _ _ _
      · cases e2_w
    · exact xe _ e _ _ _ fun x h1 => hR _ _ _ _
    · obtain ⟨e1_w, e2_w⟩ := bnd e
      exact xc _ e1_w _ _ _ _ (fun h1 => ib e2_w _ _ _ hR) (fun h1 => hR _ _ _ _)
    · obtain ⟨e1_w, e2_w⟩ := bnd e
      obtain ⟨e1_w, e3_w⟩ := bnd e1_w
      exact xc _ e1_w _ _ _ _ (fun h1 => ib e3_w _ _ _ hR) (fun h1 => ic e2_w _ _ _ hR)
    · obtain ⟨e1_w, e2_w⟩ := bnd e
      obtain ⟨e1_w, e3_w⟩ := bnd e1_w
      exact ⟨fun _ _ => True, trivial, fun en h _ => xc _ e1_w _ _ _ _ (fun h1 => ib e3_w _ _ _ fun c vs en1 h2 => ⟨fun _ => ic e2_w _ _ _ fun _ _ _ _ _ => trivial, fun _ => hR _ _ _ _, fun _ _ _ => hR _ _ _ _⟩) (fun h1 => hR _ _ _ _)⟩
    · obtain ⟨e1_w, e2_w⟩ := bnd e
      exact ⟨fun _ _ => True, trivial, fun en h _ => ib e2_w _ _ _ fun c vs en1 h2 => ⟨fun _ => xc _ e1_w _ _ _ _ (fun _ => trivial) (fun _ => hR _ _ _ _), fun _ => hR _ _ _ _, fun _ _ _ => hR _ _ _ _⟩⟩
    · exact hR _ _ _ _
    · exact hR _ _ _ _
    · exact xe _ e _ _ _ fun x h1 => hR _ _ _ _
    · exact xe _ e _ _ _ fun x h1 _ => hR _ _ _ _
    · exact hR _ _ _ _
    · exact hR _ _ _ _
    · obtain ⟨e1_w, e2_w⟩ := bnd e
      exact xe _ e1_w _ _ _ fun x h1 => ib e2_w _ _ _ fun c vs en1 h2 => ⟨fun _ => hR _ _ _ _, fun _ => hR _ _ _ _⟩
    · exact ia e _ _ _ hR
    · exact hR _ _ _ _
    · obtain ⟨e1_w, e2_w⟩ := bnd e
      exact xe _ e1_w _ _ _ fun x h1 => xe _ e2_w _ _ _ fun y h2 _ => hR _ _ _ _
    · obtain ⟨e1_w, e2_w⟩ := bnd e
      exact xc _ e1_w _ _ _ _ (fun h1 => ib e2_w _ _ _ hR) (fun h1 => hR _ _ _ _)
    · obtain ⟨e1_w, e2_w⟩ := bnd e
      exact ⟨fun _ => ib e1_w _ _ _ fun c vs en1 h1 _ => hR _ _ _ _, fun _ => ic e2_w _ _ _ hR⟩
    · exact ia e _ _ _ hR
    · cases e
  | .var _, e => by cases e
  | .op (.op _ _) _, e => by cases e
  | .op (.var _) (.var _), e => by cases e
  | .op (.var _) (.op _ (.var _)), e => by cases e
end TOP
/-- the methods that begin anew_w, or_w copy_w a plan -/
def tpL : List Nat := [3, 54, 55, 57, 58, 80, 97, 142, 156]
def CTop : CSt := fun f _ _ Q => tpL.contains f = true ∧ ∀ k r h', Q k r h'
theorem tpL_ok : (tpL.all fun f => tpS (fun g => tpL.contains g) (g_M f).2.2.2.2) = true := by decide +kernel
theorem snd_top {xs : Nat → Int} {L K : Nat} : ∀ n, SndC CTop (evF xs L g_ck K g_cW g_M n) := snd_all snd_none (fun f av h Q hQ => Or.inr (fun av h Q hQ => tpS_ok (F := fun g => tpL.contains g) (fun g e av h Q hq => ⟨e, hq⟩) _ (List.all_eq_true.mp tpL_ok f (by
  have := hQ.1
  rw [List.contains_iff_mem] at this
  exact this)) _ _ _ (fun c vs en' h' _ => hQ.2 _ _ _)))
end
section
/-! ===== contracts: the class's grid ===== -/
def kTop : KT := fun _ _ Q => ∀ k r h', Q k r h'
def k97 : KT := kTop
def k3 : KT := kTop
def k61 : KT := fun av h Q => match av with
  | [o] => Q 1 [] (j_up h o.toNat 1 0)
  | _ => False
def k2 : KT := fun av h Q => match av with
  | [o] => o = 0 ∧ ∃ (T : TA), T.2.1 ≤ 1000 ∧ BYT T.1 h ∧ TOK (h 3) T.1 T.2.1 (tS T) (tP T) (tV T) ∧ TGd T ∧ ∀ h', Q 1 [resG (tS T) (tP T) (tV T) wl] h'
  | _ => False
section KKE1
variable {h h1 h2 h' : XH} {Q : Nat → List Int → XH → Prop} {o p : Int} {av : List Int}
theorem kk_97 : k97 av h Q = ∀ k r h', Q k r h' := id rfl
theorem kk_3 : k3 av h Q = ∀ k r h', Q k r h' := id rfl
theorem kk_61 : k61 [o] h Q = Q 1 [] (j_up h o.toNat 1 0) := id rfl
theorem kk_2 : k2 [0] h Q = ∃ (T : TA), T.2.1 ≤ 1000 ∧ BYT T.1 h ∧ TOK (h 3) T.1 T.2.1 (tS T) (tP T) (tV T) ∧ TGd T ∧ ∀ h', Q 1 [resG (tS T) (tP T) (tV T) wl] h' := propext ⟨fun a => a.2, fun a => ⟨rfl, a⟩⟩
end KKE1
def CS20 : CSt := fun f => match f with
  | 97 => k97
  | 3 => k3
  | _ => CS19 f
theorem cs20_54 {av : List Int} {h : XH} {Q : Nat → List Int → XH → Prop} : CS20 54 av h Q = k54 av h Q := id rfl
theorem cs20_55 {av : List Int} {h : XH} {Q : Nat → List Int → XH → Prop} : CS20 55 av h Q = k55 av h Q := id rfl
theorem cs20_68 {av : List Int} {h : XH} {Q : Nat → List Int → XH → Prop} : CS20 68 av h Q = k68 av h Q := id rfl
theorem cs20_69 {av : List Int} {h : XH} {Q : Nat → List Int → XH → Prop} : CS20 69 av h Q = k69 av h Q := id rfl
theorem cs20_70 {av : List Int} {h : XH} {Q : Nat → List Int → XH → Prop} : CS20 70 av h Q = k70 av h Q := id rfl
theorem cs20_71 {av : List Int} {h : XH} {Q : Nat → List Int → XH → Prop} : CS20 71 av h Q = k71 av h Q := id rfl
theorem cs20_72 {av : List Int} {h : XH} {Q : Nat → List Int → XH → Prop} : CS20 72 av h Q = k72 av h Q := id rfl
theorem cs20_73 {av : List Int} {h : XH} {Q : Nat → List Int → XH → Prop} : CS20 73 av h Q = k73 av h Q := id rfl
theorem cs20_74 {av : List Int} {h : XH} {Q : Nat → List Int → XH → Prop} : CS20 74 av h Q = k74 av h Q := id rfl
theorem cs20_75 {av : List Int} {h : XH} {Q : Nat → List Int → XH → Prop} : CS20 75 av h Q = k75 av h Q := id rfl
theorem cs20_186 {av : List Int} {h : XH} {Q : Nat → List Int → XH → Prop} : CS20 186 av h Q = k186 av h Q := id rfl
theorem cs20_187 {av : List Int} {h : XH} {Q : Nat → List Int → XH → Prop} : CS20 187 av h Q = k187 av h Q := id rfl
theorem cs20_188 {av : List Int} {h : XH} {Q : Nat → List Int → XH → Prop} : CS20 188 av h Q = k188 av h Q := id rfl
theorem cs20_189 {av : List Int} {h : XH} {Q : Nat → List Int → XH → Prop} : CS20 189 av h Q = k189 av h Q := id rfl
theorem cs20_191 {av : List Int} {h : XH} {Q : Nat → List Int → XH → Prop} : CS20 191 av h Q = k191 av h Q := id rfl
theorem cs20_192 {av : List Int} {h : XH} {Q : Nat → List Int → XH → Prop} : CS20 192 av h Q = k192 av h Q := id rfl
theorem cs20_193 {av : List Int} {h : XH} {Q : Nat → List Int → XH → Prop} : CS20 193 av h Q = k193 av h Q := id rfl
theorem cs20_198 {av : List Int} {h : XH} {Q : Nat → List Int → XH → Prop} : CS20 198 av h Q = k198 av h Q := id rfl
theorem cs20_207 {av : List Int} {h : XH} {Q : Nat → List Int → XH → Prop} : CS20 207 av h Q = k207 av h Q := id rfl
theorem cs20_195 {av : List Int} {h : XH} {Q : Nat → List Int → XH → Prop} : CS20 195 av h Q = k195 av h Q := id rfl
theorem cs20_196 {av : List Int} {h : XH} {Q : Nat → List Int → XH → Prop} : CS20 196 av h Q = k196 av h Q := id rfl
theorem cs20_201 {av : List Int} {h : XH} {Q : Nat → List Int → XH → Prop} : CS20 201 av h Q = k201 av h Q := id rfl
theorem cs20_203 {av : List Int} {h : XH} {Q : Nat → List Int → XH → Prop} : CS20 203 av h Q = k203 av h Q := id rfl
theorem cs20_204 {av : List Int} {h : XH} {Q : Nat → List Int → XH → Prop} : CS20 204 av h Q = k204 av h Q := id rfl
theorem cs20_194 {av : List Int} {h : XH} {Q : Nat → List Int → XH → Prop} : CS20 194 av h Q = k194 av h Q := id rfl
theorem cs20_197 {av : List Int} {h : XH} {Q : Nat → List Int → XH → Prop} : CS20 197 av h Q = k197 av h Q := id rfl
theorem cs20_200 {av : List Int} {h : XH} {Q : Nat → List Int → XH → Prop} : CS20 200 av h Q = k200 av h Q := id rfl
theorem cs20_202 {av : List Int} {h : XH} {Q : Nat → List Int → XH → Prop} : CS20 202 av h Q = k202 av h Q := id rfl
theorem cs20_205 {av : List Int} {h : XH} {Q : Nat → List Int → XH → Prop} : CS20 205 av h Q = k205 av h Q := id rfl
theorem cs20_208 {av : List Int} {h : XH} {Q : Nat → List Int → XH → Prop} : CS20 208 av h Q = k208 av h Q := id rfl
theorem cs20_209 {av : List Int} {h : XH} {Q : Nat → List Int → XH → Prop} : CS20 209 av h Q = k209 av h Q := id rfl
theorem cs20_211 {av : List Int} {h : XH} {Q : Nat → List Int → XH → Prop} : CS20 211 av h Q = k211 av h Q := id rfl
theorem cs20_216 {av : List Int} {h : XH} {Q : Nat → List Int → XH → Prop} : CS20 216 av h Q = k216 av h Q := id rfl
theorem cs20_217 {av : List Int} {h : XH} {Q : Nat → List Int → XH → Prop} : CS20 217 av h Q = k217 av h Q := id rfl
theorem cs20_218 {av : List Int} {h : XH} {Q : Nat → List Int → XH → Prop} : CS20 218 av h Q = k218 av h Q := id rfl
theorem cs20_219 {av : List Int} {h : XH} {Q : Nat → List Int → XH → Prop} : CS20 219 av h Q = k219 av h Q := id rfl
theorem cs20_220 {av : List Int} {h : XH} {Q : Nat → List Int → XH → Prop} : CS20 220 av h Q = k220 av h Q := id rfl
theorem cs20_221 {av : List Int} {h : XH} {Q : Nat → List Int → XH → Prop} : CS20 221 av h Q = k221 av h Q := id rfl
theorem cs20_210 {av : List Int} {h : XH} {Q : Nat → List Int → XH → Prop} : CS20 210 av h Q = k210 av h Q := id rfl
theorem cs20_212 {av : List Int} {h : XH} {Q : Nat → List Int → XH → Prop} : CS20 212 av h Q = k212 av h Q := id rfl
theorem cs20_213 {av : List Int} {h : XH} {Q : Nat → List Int → XH → Prop} : CS20 213 av h Q = k213 av h Q := id rfl
theorem cs20_190 {av : List Int} {h : XH} {Q : Nat → List Int → XH → Prop} : CS20 190 av h Q = k190 av h Q := id rfl
theorem cs20_199 {av : List Int} {h : XH} {Q : Nat → List Int → XH → Prop} : CS20 199 av h Q = k199 av h Q := id rfl
theorem cs20_225 {av : List Int} {h : XH} {Q : Nat → List Int → XH → Prop} : CS20 225 av h Q = k225 av h Q := id rfl
theorem cs20_226 {av : List Int} {h : XH} {Q : Nat → List Int → XH → Prop} : CS20 226 av h Q = k226 av h Q := id rfl
theorem cs20_227 {av : List Int} {h : XH} {Q : Nat → List Int → XH → Prop} : CS20 227 av h Q = k227 av h Q := id rfl
theorem cs20_228 {av : List Int} {h : XH} {Q : Nat → List Int → XH → Prop} : CS20 228 av h Q = k228 av h Q := id rfl
theorem cs20_240 {av : List Int} {h : XH} {Q : Nat → List Int → XH → Prop} : CS20 240 av h Q = k240 av h Q := id rfl
theorem cs20_241 {av : List Int} {h : XH} {Q : Nat → List Int → XH → Prop} : CS20 241 av h Q = k241 av h Q := id rfl
theorem cs20_206 {av : List Int} {h : XH} {Q : Nat → List Int → XH → Prop} : CS20 206 av h Q = k206 av h Q := id rfl
theorem cs20_333 {av : List Int} {h : XH} {Q : Nat → List Int → XH → Prop} : CS20 333 av h Q = k333 av h Q := id rfl
theorem cs20_67 {av : List Int} {h : XH} {Q : Nat → List Int → XH → Prop} : CS20 67 av h Q = k67 av h Q := id rfl
theorem cs20_65 {av : List Int} {h : XH} {Q : Nat → List Int → XH → Prop} : CS20 65 av h Q = k65 av h Q := id rfl
theorem cs20_66 {av : List Int} {h : XH} {Q : Nat → List Int → XH → Prop} : CS20 66 av h Q = k66 av h Q := id rfl
theorem cs20_64 {av : List Int} {h : XH} {Q : Nat → List Int → XH → Prop} : CS20 64 av h Q = k64 av h Q := id rfl
theorem cs20_63 {av : List Int} {h : XH} {Q : Nat → List Int → XH → Prop} : CS20 63 av h Q = k63 av h Q := id rfl
theorem cs20_77 {av : List Int} {h : XH} {Q : Nat → List Int → XH → Prop} : CS20 77 av h Q = k77 av h Q := id rfl
theorem cs20_76 {av : List Int} {h : XH} {Q : Nat → List Int → XH → Prop} : CS20 76 av h Q = k76 av h Q := id rfl
theorem cs20_133 {av : List Int} {h : XH} {Q : Nat → List Int → XH → Prop} : CS20 133 av h Q = k133 av h Q := id rfl
theorem cs20_134 {av : List Int} {h : XH} {Q : Nat → List Int → XH → Prop} : CS20 134 av h Q = k134 av h Q := id rfl
theorem cs20_135 {av : List Int} {h : XH} {Q : Nat → List Int → XH → Prop} : CS20 135 av h Q = k135 av h Q := id rfl
theorem cs20_136 {av : List Int} {h : XH} {Q : Nat → List Int → XH → Prop} : CS20 136 av h Q = k136 av h Q := id rfl
theorem cs20_138 {av : List Int} {h : XH} {Q : Nat → List Int → XH → Prop} : CS20 138 av h Q = k138 av h Q := id rfl
theorem cs20_139 {av : List Int} {h : XH} {Q : Nat → List Int → XH → Prop} : CS20 139 av h Q = k139 av h Q := id rfl
theorem cs20_105 {av : List Int} {h : XH} {Q : Nat → List Int → XH → Prop} : CS20 105 av h Q = k105 av h Q := id rfl
theorem cs20_102 {av : List Int} {h : XH} {Q : Nat → List Int → XH → Prop} : CS20 102 av h Q = k102 av h Q := id rfl
theorem cs20_103 {av : List Int} {h : XH} {Q : Nat → List Int → XH → Prop} : CS20 103 av h Q = k103 av h Q := id rfl
theorem cs20_104 {av : List Int} {h : XH} {Q : Nat → List Int → XH → Prop} : CS20 104 av h Q = k104 av h Q := id rfl
theorem cs20_106 {av : List Int} {h : XH} {Q : Nat → List Int → XH → Prop} : CS20 106 av h Q = k106 av h Q := id rfl
theorem cs20_140 {av : List Int} {h : XH} {Q : Nat → List Int → XH → Prop} : CS20 140 av h Q = k140 av h Q := id rfl
theorem cs20_137 {av : List Int} {h : XH} {Q : Nat → List Int → XH → Prop} : CS20 137 av h Q = k137 av h Q := id rfl
theorem cs20_127 {av : List Int} {h : XH} {Q : Nat → List Int → XH → Prop} : CS20 127 av h Q = k127 av h Q := id rfl
theorem cs20_56 {av : List Int} {h : XH} {Q : Nat → List Int → XH → Prop} : CS20 56 av h Q = k56 av h Q := id rfl
theorem cs20_57 {av : List Int} {h : XH} {Q : Nat → List Int → XH → Prop} : CS20 57 av h Q = k57 av h Q := id rfl
theorem cs20_79 {av : List Int} {h : XH} {Q : Nat → List Int → XH → Prop} : CS20 79 av h Q = k79 av h Q := id rfl
theorem cs20_101 {av : List Int} {h : XH} {Q : Nat → List Int → XH → Prop} : CS20 101 av h Q = k101 av h Q := id rfl
theorem cs20_96 {av : List Int} {h : XH} {Q : Nat → List Int → XH → Prop} : CS20 96 av h Q = k96 av h Q := id rfl
theorem cs20_99 {av : List Int} {h : XH} {Q : Nat → List Int → XH → Prop} : CS20 99 av h Q = k99c av h Q := id rfl
theorem cs20_100 {av : List Int} {h : XH} {Q : Nat → List Int → XH → Prop} : CS20 100 av h Q = k100 av h Q := id rfl
theorem cs20_98 {av : List Int} {h : XH} {Q : Nat → List Int → XH → Prop} : CS20 98 av h Q = k98 av h Q := id rfl
theorem cs20_122 {av : List Int} {h : XH} {Q : Nat → List Int → XH → Prop} : CS20 122 av h Q = k122 av h Q := id rfl
theorem cs20_123 {av : List Int} {h : XH} {Q : Nat → List Int → XH → Prop} : CS20 123 av h Q = k123 av h Q := id rfl
theorem cs20_124 {av : List Int} {h : XH} {Q : Nat → List Int → XH → Prop} : CS20 124 av h Q = k124 av h Q := id rfl
theorem cs20_125 {av : List Int} {h : XH} {Q : Nat → List Int → XH → Prop} : CS20 125 av h Q = k125 av h Q := id rfl
theorem cs20_126 {av : List Int} {h : XH} {Q : Nat → List Int → XH → Prop} : CS20 126 av h Q = k126 av h Q := id rfl
theorem cs20_84 {av : List Int} {h : XH} {Q : Nat → List Int → XH → Prop} : CS20 84 av h Q = k84 av h Q := id rfl
theorem cs20_82 {av : List Int} {h : XH} {Q : Nat → List Int → XH → Prop} : CS20 82 av h Q = k82 av h Q := id rfl
theorem cs20_83 {av : List Int} {h : XH} {Q : Nat → List Int → XH → Prop} : CS20 83 av h Q = k83 av h Q := id rfl
theorem cs20_85 {av : List Int} {h : XH} {Q : Nat → List Int → XH → Prop} : CS20 85 av h Q = k85 av h Q := id rfl
theorem cs20_89 {av : List Int} {h : XH} {Q : Nat → List Int → XH → Prop} : CS20 89 av h Q = k89 av h Q := id rfl
theorem cs20_90 {av : List Int} {h : XH} {Q : Nat → List Int → XH → Prop} : CS20 90 av h Q = k90 av h Q := id rfl
theorem cs20_91 {av : List Int} {h : XH} {Q : Nat → List Int → XH → Prop} : CS20 91 av h Q = k91 av h Q := id rfl
theorem cs20_88 {av : List Int} {h : XH} {Q : Nat → List Int → XH → Prop} : CS20 88 av h Q = k88 av h Q := id rfl
theorem cs20_86 {av : List Int} {h : XH} {Q : Nat → List Int → XH → Prop} : CS20 86 av h Q = k86 av h Q := id rfl
theorem cs20_87 {av : List Int} {h : XH} {Q : Nat → List Int → XH → Prop} : CS20 87 av h Q = k87 av h Q := id rfl
theorem cs20_81 {av : List Int} {h : XH} {Q : Nat → List Int → XH → Prop} : CS20 81 av h Q = k81 av h Q := id rfl
theorem cs20_128 {av : List Int} {h : XH} {Q : Nat → List Int → XH → Prop} : CS20 128 av h Q = k128 av h Q := id rfl
theorem cs20_119 {av : List Int} {h : XH} {Q : Nat → List Int → XH → Prop} : CS20 119 av h Q = k119 av h Q := id rfl
theorem cs20_97 {av : List Int} {h : XH} {Q : Nat → List Int → XH → Prop} : CS20 97 av h Q = k97 av h Q := id rfl
theorem cs20_3 {av : List Int} {h : XH} {Q : Nat → List Int → XH → Prop} : CS20 3 av h Q = k3 av h Q := id rfl
theorem snd_20 {xs : Nat → Int} {L K : Nat} : ∀ n, SndC CS20 (evF xs L g_ck K g_cW g_M n) := fun n cd f av h Q hQ k r g' h' e => by
  unfold CS20 at hQ
  split at hQ
  · exact snd_top n cd _ av h Q ⟨by decide, hQ⟩ k r g' h' e
  · exact snd_top n cd _ av h Q ⟨by decide, hQ⟩ k r g' h' e
  · exact snd_19 n cd _ av h Q hQ k r g' h' e
def CS21 : CSt := fun f => match f with
  | 61 => k61
  | 2 => k2
  | _ => CS20 f
theorem cs21_54 {av : List Int} {h : XH} {Q : Nat → List Int → XH → Prop} : CS21 54 av h Q = k54 av h Q := id rfl
theorem cs21_55 {av : List Int} {h : XH} {Q : Nat → List Int → XH → Prop} : CS21 55 av h Q = k55 av h Q := id rfl
theorem cs21_68 {av : List Int} {h : XH} {Q : Nat → List Int → XH → Prop} : CS21 68 av h Q = k68 av h Q := id rfl
theorem cs21_69 {av : List Int} {h : XH} {Q : Nat → List Int → XH → Prop} : CS21 69 av h Q = k69 av h Q := id rfl
theorem cs21_70 {av : List Int} {h : XH} {Q : Nat → List Int → XH → Prop} : CS21 70 av h Q = k70 av h Q := id rfl
theorem cs21_71 {av : List Int} {h : XH} {Q : Nat → List Int → XH → Prop} : CS21 71 av h Q = k71 av h Q := id rfl
theorem cs21_72 {av : List Int} {h : XH} {Q : Nat → List Int → XH → Prop} : CS21 72 av h Q = k72 av h Q := id rfl
theorem cs21_73 {av : List Int} {h : XH} {Q : Nat → List Int → XH → Prop} : CS21 73 av h Q = k73 av h Q := id rfl
theorem cs21_74 {av : List Int} {h : XH} {Q : Nat → List Int → XH → Prop} : CS21 74 av h Q = k74 av h Q := id rfl
theorem cs21_75 {av : List Int} {h : XH} {Q : Nat → List Int → XH → Prop} : CS21 75 av h Q = k75 av h Q := id rfl
theorem cs21_186 {av : List Int} {h : XH} {Q : Nat → List Int → XH → Prop} : CS21 186 av h Q = k186 av h Q := id rfl
theorem cs21_187 {av : List Int} {h : XH} {Q : Nat → List Int → XH → Prop} : CS21 187 av h Q = k187 av h Q := id rfl
theorem cs21_188 {av : List Int} {h : XH} {Q : Nat → List Int → XH → Prop} : CS21 188 av h Q = k188 av h Q := id rfl
theorem cs21_189 {av : List Int} {h : XH} {Q : Nat → List Int → XH → Prop} : CS21 189 av h Q = k189 av h Q := id rfl
theorem cs21_191 {av : List Int} {h : XH} {Q : Nat → List Int → XH → Prop} : CS21 191 av h Q = k191 av h Q := id rfl
theorem cs21_192 {av : List Int} {h : XH} {Q : Nat → List Int → XH → Prop} : CS21 192 av h Q = k192 av h Q := id rfl
theorem cs21_193 {av : List Int} {h : XH} {Q : Nat → List Int → XH → Prop} : CS21 193 av h Q = k193 av h Q := id rfl
theorem cs21_198 {av : List Int} {h : XH} {Q : Nat → List Int → XH → Prop} : CS21 198 av h Q = k198 av h Q := id rfl
theorem cs21_207 {av : List Int} {h : XH} {Q : Nat → List Int → XH → Prop} : CS21 207 av h Q = k207 av h Q := id rfl
theorem cs21_195 {av : List Int} {h : XH} {Q : Nat → List Int → XH → Prop} : CS21 195 av h Q = k195 av h Q := id rfl
theorem cs21_196 {av : List Int} {h : XH} {Q : Nat → List Int → XH → Prop} : CS21 196 av h Q = k196 av h Q := id rfl
theorem cs21_201 {av : List Int} {h : XH} {Q : Nat → List Int → XH → Prop} : CS21 201 av h Q = k201 av h Q := id rfl
theorem cs21_203 {av : List Int} {h : XH} {Q : Nat → List Int → XH → Prop} : CS21 203 av h Q = k203 av h Q := id rfl
theorem cs21_204 {av : List Int} {h : XH} {Q : Nat → List Int → XH → Prop} : CS21 204 av h Q = k204 av h Q := id rfl
theorem cs21_194 {av : List Int} {h : XH} {Q : Nat → List Int → XH → Prop} : CS21 194 av h Q = k194 av h Q := id rfl
theorem cs21_197 {av : List Int} {h : XH} {Q : Nat → List Int → XH → Prop} : CS21 197 av h Q = k197 av h Q := id rfl
theorem cs21_200 {av : List Int} {h : XH} {Q : Nat → List Int → XH → Prop} : CS21 200 av h Q = k200 av h Q := id rfl
theorem cs21_202 {av : List Int} {h : XH} {Q : Nat → List Int → XH → Prop} : CS21 202 av h Q = k202 av h Q := id rfl
theorem cs21_205 {av : List Int} {h : XH} {Q : Nat → List Int → XH → Prop} : CS21 205 av h Q = k205 av h Q := id rfl
theorem cs21_208 {av : List Int} {h : XH} {Q : Nat → List Int → XH → Prop} : CS21 208 av h Q = k208 av h Q := id rfl
theorem cs21_209 {av : List Int} {h : XH} {Q : Nat → List Int → XH → Prop} : CS21 209 av h Q = k209 av h Q := id rfl
theorem cs21_211 {av : List Int} {h : XH} {Q : Nat → List Int → XH → Prop} : CS21 211 av h Q = k211 av h Q := id rfl
theorem cs21_216 {av : List Int} {h : XH} {Q : Nat → List Int → XH → Prop} : CS21 216 av h Q = k216 av h Q := id rfl
theorem cs21_217 {av : List Int} {h : XH} {Q : Nat → List Int → XH → Prop} : CS21 217 av h Q = k217 av h Q := id rfl
theorem cs21_218 {av : List Int} {h : XH} {Q : Nat → List Int → XH → Prop} : CS21 218 av h Q = k218 av h Q := id rfl
theorem cs21_219 {av : List Int} {h : XH} {Q : Nat → List Int → XH → Prop} : CS21 219 av h Q = k219 av h Q := id rfl
theorem cs21_220 {av : List Int} {h : XH} {Q : Nat → List Int → XH → Prop} : CS21 220 av h Q = k220 av h Q := id rfl
theorem cs21_221 {av : List Int} {h : XH} {Q : Nat → List Int → XH → Prop} : CS21 221 av h Q = k221 av h Q := id rfl
theorem cs21_210 {av : List Int} {h : XH} {Q : Nat → List Int → XH → Prop} : CS21 210 av h Q = k210 av h Q := id rfl
theorem cs21_212 {av : List Int} {h : XH} {Q : Nat → List Int → XH → Prop} : CS21 212 av h Q = k212 av h Q := id rfl
theorem cs21_213 {av : List Int} {h : XH} {Q : Nat → List Int → XH → Prop} : CS21 213 av h Q = k213 av h Q := id rfl
theorem cs21_190 {av : List Int} {h : XH} {Q : Nat → List Int → XH → Prop} : CS21 190 av h Q = k190 av h Q := id rfl
theorem cs21_199 {av : List Int} {h : XH} {Q : Nat → List Int → XH → Prop} : CS21 199 av h Q = k199 av h Q := id rfl
theorem cs21_225 {av : List Int} {h : XH} {Q : Nat → List Int → XH → Prop} : CS21 225 av h Q = k225 av h Q := id rfl
theorem cs21_226 {av : List Int} {h : XH} {Q : Nat → List Int → XH → Prop} : CS21 226 av h Q = k226 av h Q := id rfl
theorem cs21_227 {av : List Int} {h : XH} {Q : Nat → List Int → XH → Prop} : CS21 227 av h Q = k227 av h Q := id rfl
theorem cs21_228 {av : List Int} {h : XH} {Q : Nat → List Int → XH → Prop} : CS21 228 av h Q = k228 av h Q := id rfl
theorem cs21_240 {av : List Int} {h : XH} {Q : Nat → List Int → XH → Prop} : CS21 240 av h Q = k240 av h Q := id rfl
theorem cs21_241 {av : List Int} {h : XH} {Q : Nat → List Int → XH → Prop} : CS21 241 av h Q = k241 av h Q := id rfl
theorem cs21_206 {av : List Int} {h : XH} {Q : Nat → List Int → XH → Prop} : CS21 206 av h Q = k206 av h Q := id rfl
theorem cs21_333 {av : List Int} {h : XH} {Q : Nat → List Int → XH → Prop} : CS21 333 av h Q = k333 av h Q := id rfl
theorem cs21_67 {av : List Int} {h : XH} {Q : Nat → List Int → XH → Prop} : CS21 67 av h Q = k67 av h Q := id rfl
theorem cs21_65 {av : List Int} {h : XH} {Q : Nat → List Int → XH → Prop} : CS21 65 av h Q = k65 av h Q := id rfl
theorem cs21_66 {av : List Int} {h : XH} {Q : Nat → List Int → XH → Prop} : CS21 66 av h Q = k66 av h Q := id rfl
theorem cs21_64 {av : List Int} {h : XH} {Q : Nat → List Int → XH → Prop} : CS21 64 av h Q = k64 av h Q := id rfl
theorem cs21_63 {av : List Int} {h : XH} {Q : Nat → List Int → XH → Prop} : CS21 63 av h Q = k63 av h Q := id rfl
theorem cs21_77 {av : List Int} {h : XH} {Q : Nat → List Int → XH → Prop} : CS21 77 av h Q = k77 av h Q := id rfl
theorem cs21_76 {av : List Int} {h : XH} {Q : Nat → List Int → XH → Prop} : CS21 76 av h Q = k76 av h Q := id rfl
theorem cs21_133 {av : List Int} {h : XH} {Q : Nat → List Int → XH → Prop} : CS21 133 av h Q = k133 av h Q := id rfl
theorem cs21_134 {av : List Int} {h : XH} {Q : Nat → List Int → XH → Prop} : CS21 134 av h Q = k134 av h Q := id rfl
theorem cs21_135 {av : List Int} {h : XH} {Q : Nat → List Int → XH → Prop} : CS21 135 av h Q = k135 av h Q := id rfl
theorem cs21_136 {av : List Int} {h : XH} {Q : Nat → List Int → XH → Prop} : CS21 136 av h Q = k136 av h Q := id rfl
theorem cs21_138 {av : List Int} {h : XH} {Q : Nat → List Int → XH → Prop} : CS21 138 av h Q = k138 av h Q := id rfl
theorem cs21_139 {av : List Int} {h : XH} {Q : Nat → List Int → XH → Prop} : CS21 139 av h Q = k139 av h Q := id rfl
theorem cs21_105 {av : List Int} {h : XH} {Q : Nat → List Int → XH → Prop} : CS21 105 av h Q = k105 av h Q := id rfl
theorem cs21_102 {av : List Int} {h : XH} {Q : Nat → List Int → XH → Prop} : CS21 102 av h Q = k102 av h Q := id rfl
theorem cs21_103 {av : List Int} {h : XH} {Q : Nat → List Int → XH → Prop} : CS21 103 av h Q = k103 av h Q := id rfl
theorem cs21_104 {av : List Int} {h : XH} {Q : Nat → List Int → XH → Prop} : CS21 104 av h Q = k104 av h Q := id rfl
theorem cs21_106 {av : List Int} {h : XH} {Q : Nat → List Int → XH → Prop} : CS21 106 av h Q = k106 av h Q := id rfl
theorem cs21_140 {av : List Int} {h : XH} {Q : Nat → List Int → XH → Prop} : CS21 140 av h Q = k140 av h Q := id rfl
theorem cs21_137 {av : List Int} {h : XH} {Q : Nat → List Int → XH → Prop} : CS21 137 av h Q = k137 av h Q := id rfl
theorem cs21_127 {av : List Int} {h : XH} {Q : Nat → List Int → XH → Prop} : CS21 127 av h Q = k127 av h Q := id rfl
theorem cs21_56 {av : List Int} {h : XH} {Q : Nat → List Int → XH → Prop} : CS21 56 av h Q = k56 av h Q := id rfl
theorem cs21_57 {av : List Int} {h : XH} {Q : Nat → List Int → XH → Prop} : CS21 57 av h Q = k57 av h Q := id rfl
theorem cs21_79 {av : List Int} {h : XH} {Q : Nat → List Int → XH → Prop} : CS21 79 av h Q = k79 av h Q := id rfl
theorem cs21_101 {av : List Int} {h : XH} {Q : Nat → List Int → XH → Prop} : CS21 101 av h Q = k101 av h Q := id rfl
theorem cs21_96 {av : List Int} {h : XH} {Q : Nat → List Int → XH → Prop} : CS21 96 av h Q = k96 av h Q := id rfl
theorem cs21_99 {av : List Int} {h : XH} {Q : Nat → List Int → XH → Prop} : CS21 99 av h Q = k99c av h Q := id rfl
theorem cs21_100 {av : List Int} {h : XH} {Q : Nat → List Int → XH → Prop} : CS21 100 av h Q = k100 av h Q := id rfl
theorem cs21_98 {av : List Int} {h : XH} {Q : Nat → List Int → XH → Prop} : CS21 98 av h Q = k98 av h Q := id rfl
theorem cs21_122 {av : List Int} {h : XH} {Q : Nat → List Int → XH → Prop} : CS21 122 av h Q = k122 av h Q := id rfl
theorem cs21_123 {av : List Int} {h : XH} {Q : Nat → List Int → XH → Prop} : CS21 123 av h Q = k123 av h Q := id rfl
theorem cs21_124 {av : List Int} {h : XH} {Q : Nat → List Int → XH → Prop} : CS21 124 av h Q = k124 av h Q := id rfl
theorem cs21_125 {av : List Int} {h : XH} {Q : Nat → List Int → XH → Prop} : CS21 125 av h Q = k125 av h Q := id rfl
theorem cs21_126 {av : List Int} {h : XH} {Q : Nat → List Int → XH → Prop} : CS21 126 av h Q = k126 av h Q := id rfl
theorem cs21_84 {av : List Int} {h : XH} {Q : Nat → List Int → XH → Prop} : CS21 84 av h Q = k84 av h Q := id rfl
theorem cs21_82 {av : List Int} {h : XH} {Q : Nat → List Int → XH → Prop} : CS21 82 av h Q = k82 av h Q := id rfl
theorem cs21_83 {av : List Int} {h : XH} {Q : Nat → List Int → XH → Prop} : CS21 83 av h Q = k83 av h Q := id rfl
theorem cs21_85 {av : List Int} {h : XH} {Q : Nat → List Int → XH → Prop} : CS21 85 av h Q = k85 av h Q := id rfl
theorem cs21_89 {av : List Int} {h : XH} {Q : Nat → List Int → XH → Prop} : CS21 89 av h Q = k89 av h Q := id rfl
theorem cs21_90 {av : List Int} {h : XH} {Q : Nat → List Int → XH → Prop} : CS21 90 av h Q = k90 av h Q := id rfl
theorem cs21_91 {av : List Int} {h : XH} {Q : Nat → List Int → XH → Prop} : CS21 91 av h Q = k91 av h Q := id rfl
theorem cs21_88 {av : List Int} {h : XH} {Q : Nat → List Int → XH → Prop} : CS21 88 av h Q = k88 av h Q := id rfl
theorem cs21_86 {av : List Int} {h : XH} {Q : Nat → List Int → XH → Prop} : CS21 86 av h Q = k86 av h Q := id rfl
theorem cs21_87 {av : List Int} {h : XH} {Q : Nat → List Int → XH → Prop} : CS21 87 av h Q = k87 av h Q := id rfl
theorem cs21_81 {av : List Int} {h : XH} {Q : Nat → List Int → XH → Prop} : CS21 81 av h Q = k81 av h Q := id rfl
theorem cs21_128 {av : List Int} {h : XH} {Q : Nat → List Int → XH → Prop} : CS21 128 av h Q = k128 av h Q := id rfl
theorem cs21_119 {av : List Int} {h : XH} {Q : Nat → List Int → XH → Prop} : CS21 119 av h Q = k119 av h Q := id rfl
theorem cs21_97 {av : List Int} {h : XH} {Q : Nat → List Int → XH → Prop} : CS21 97 av h Q = k97 av h Q := id rfl
theorem cs21_3 {av : List Int} {h : XH} {Q : Nat → List Int → XH → Prop} : CS21 3 av h Q = k3 av h Q := id rfl
theorem cs21_61 {av : List Int} {h : XH} {Q : Nat → List Int → XH → Prop} : CS21 61 av h Q = k61 av h Q := id rfl
theorem cs21_2 {av : List Int} {h : XH} {Q : Nat → List Int → XH → Prop} : CS21 2 av h Q = k2 av h Q := id rfl
theorem m_61 : BodyOK CS21 CS21 61 := fun av h Q hQ => by
  rw [cs21_61] at hQ
  unfold k61 at hQ
  split at hQ
  · rename_i o
    show pS CS21 bb_61 [o] h _
    unfold bb_61
    simp only [qe_1, qe_3, qe_4, qe_5, qe_7, qe_72, qe_10, qe_102, qe_13, qe_14, qe_15, qe_16, qe_17, qe_18, qe_20, qe_22, qe_23, qe_21, qe_24, qe_25, qe_26, qe_27, qe_28, qe_30, qe_31, qe_32, qc_20, qc_22, qc_23, qc_21, qc_24, qc_25, qc_26, qc_27, qc_1, qc_3, qc_4, qc_7, qc_13, qc_28, qc_32, qs_1, qs_2, qs_3, qs_4, qs_5, qs_6, qs_9, qs_10, qs_11, qs_14, qs_15, qs_16, qs_27, qs_17, qs_18, qs_19, qs_20, qs_22, qs_23, qs_28, qs_25, qs_26, qs_7, qs_8, kc_1, kn_1, kc_2, kn_2, kc_3, kn_3, kc_4, kn_4, kc_5, kn_5, kc_6, kn_6, kc_7, kn_7, kc_8, kn_8, kc_9, kn_9, kc_10, kn_10, kc_11, kn_11, kc_12, kn_12, kc_13, kn_13, kc_14, kn_14, kc_15, kn_15, kc_16, kc_17, kc_18, kc_19, kc_20, kc_21, kc_22, kc_23, kc_30, kc_32, kc_40, kc_43, kc_45, kc_48, kc_52, kc_56, kc_57, kc_59, kc_60, kc_61, kc_63, kc_64, kc_72, kc_78, kc_97, kc_99, kc_122, kc_126, kc_128, kc_192, kc_200, kc_255, kc_999, kc_1000, kc_9999, kn_9999, kc_10000, kc_12345, kc_65536, kc_252645135, kc_858993459, kc_1103515245, kc_1431655765, kc_2147483647, kc_0, kc_24, kc_28, kc_37, kc_41, kc_42, kc_73, kc_91, kc_95, kc_96, kc_98, kc_100, kc_112, kc_125, kc_150, kc_162, kc_163, kc_168, kc_186, kc_190, kc_250, kc_355, kc_356, kc_404, kc_405, kc_429, kc_573, kc_1002, kc_1100, kc_1891, kc_2200, kc_4719, kc_4869, kc_4881, kc_5148, kc_19741, kc_25433, kc_320403, kc_628412, kc_629093, kc_660401, kc_679843, kc_918640, kc_979410, kc_1178088, kc_6232410, kc_24644941, kc_36238189, kc_38270444, kc_392531318, kc_425693491, kc_1342154595, kc_2147483648, kc_42328242873, kc_891704255789, kc_1722105685577, kc_1858726030364, ct_0, ct_1, ct_2, ct_3, ct_4, ct_5, cf_0, cf_1, cf_2, cf_3, cf_4, cf_5, w_ty6, w_ty7, m_sv, m_z0, m_hd, m_g0, m_gs, m_s0, m_ss, m_ap, m_an, forall_const, true_and, and_true, ne_eq, not_true_eq_false, not_false_eq_true, false_implies, true_implies, implies_true, eq_self, reduceCtorEq, Nat.reduceDiv, Nat.reduceMod, Int.reduceToNat, or_true, true_or, or_false, false_or, or_self, m_it, m_if, m_c1, m_01, m_02, m_03, m_04, m_10, m_12, m_13, m_14, m_20, m_21, m_23, m_24, m_30, m_31, m_32, m_34, m_40, m_41, m_42, m_43, Int.reduceLE, Int.reduceLT, Int.reduceGE, Int.reduceGT, Int.reduceNeg, Int.reduceAdd, Int.reduceSub, Int.reduceMul, Int.reduceEq, Int.reduceNe, Nat.reduceAdd, jun2, ro_0_0, ro_0_1, ro_0_2, ro_0_3, ro_0_4, ro_0_5, ro_0_6, ro_0_7, ro_0_8, ro_0_9, ro_0_10, ro_0_11, ro_0_12, ro_1_0, ro_1_1, ro_2_0, ro_4_0, ro_6_0, ro_6_1, ro_6_2, ro_6_3, ro_6_4, ro_6_5, ro_6_6, ro_6_7, ro_6_8, ro_8_0, ro_10_0, ro_12_0, ro_14_0, ro_16_0, ro_18_0, ro_20_0, ro_22_0, ro_22_1, ro_22_2, ro_23_0, ro_25_0, ro_27_0, ro_29_0, ro_29_1, ro_29_2, ro_29_3, ro_29_4, ro_29_5, ro_29_6, ro_29_7, ro_29_8, ro_31_0, ro_33_0, ro_35_0, ro_37_0, ro_39_0, ro_41_0, ro_43_0, ro_45_0, ro_45_1, ro_45_2, ro_46_0, ro_48_0, ro_50_0, ro_52_0, ro_52_1, ro_52_2, ro_52_3, ro_53_0, ro_55_0, ro_57_0, ro_59_0, ro_61_0, ro_61_1, ro_61_2, ro_61_3, ro_62_0, ro_64_0, ro_66_0, ro_68_0, ro_70_0, ro_70_1, ro_70_2, ro_70_3, ro_70_4, ro_70_5, ro_70_6, ro_70_7, ro_70_8, ro_70_9, ro_71_0, ro_73_0, ro_75_0, ro_77_0, ro_79_0, ro_81_0, ro_83_0, ro_85_0, ro_87_0, ro_89_0, ro_91_0, ro_91_1, ro_91_2, ro_91_3, ro_91_4, ro_91_5, ro_91_6, ro_91_7, ro_91_8, ro_91_9, ro_92_0, ro_94_0, ro_96_0, ro_98_0, ro_100_0, ro_102_0, ro_104_0, ro_106_0, ro_108_0, ro_110_0, ro_112_0, ro_112_1, ro_112_2, ro_112_3, ro_112_4, ro_112_5, ro_112_6, ro_112_7, ro_112_8, ro_112_9, ro_113_0, ro_115_0, ro_117_0, ro_119_0, ro_121_0, ro_123_0, ro_125_0, ro_127_0, ro_129_0, ro_131_0, ro_133_0, ro_133_1, ro_133_2, ro_133_3, ro_133_4, ro_133_5, ro_133_6, ro_133_7, ro_133_8, ro_133_9, ro_134_0, ro_136_0, ro_138_0, ro_140_0, ro_142_0, ro_144_0, ro_146_0, ro_148_0, ro_150_0, ro_152_0, ro_154_0, ro_155_0, ro_157_0, ro_157_1, ro_157_2, ro_157_3, ro_157_4, ro_157_5, ro_157_6, ro_157_7, ro_157_8, ro_157_9, ro_158_0, ro_160_0, ro_162_0, ro_164_0, ro_166_0, ro_168_0, ro_170_0, ro_172_0, ro_174_0, ro_176_0, ro_178_0, ro_180_0, ro_182_1, ro_182_4, ro_182_5, ro_182_6, ro_182_9, ro_182_10, ro_182_11, ro_182_13, ro_182_14, ro_182_15, ro_182_16, ro_182_17, ro_182_20, ro_182_21, ro_182_22, ro_182_23, ro_182_24, ro_182_26, ro_182_27, ro_182_28, lo_3, lo_5, lo_7, lo_9, lo_11, lo_13, lo_15, lo_17, lo_19, lo_21, lo_24, lo_26, lo_28, lo_30, lo_32, lo_34, lo_36, lo_38, lo_40, lo_42, lo_44, lo_47, lo_49, lo_51, lo_54, lo_56, lo_58, lo_60, lo_63, lo_65, lo_67, lo_69, lo_72, lo_74, lo_76, lo_78, lo_80, lo_82, lo_84, lo_86, lo_88, lo_90, lo_93, lo_95, lo_97, lo_99, lo_101, lo_103, lo_105, lo_107, lo_109, lo_111, lo_114, lo_116, lo_118, lo_120, lo_122, lo_124, lo_126, lo_128, lo_130, lo_132, lo_135, lo_137, lo_139, lo_141, lo_143, lo_145, lo_147, lo_149, lo_151, lo_153, lo_156, lo_159, lo_161, lo_163, lo_165, lo_167, lo_169, lo_171, lo_173, lo_175, lo_177, lo_179, lo_181, lo_183, lo_184, lo_185, lo_186, lo_187, lo_188, lo_189, lo_190, lo_191, lo_192, lo_193, lo_194, lo_195, lo_196, lo_197, lo_198, lo_199, lo_200, lo_201, lo_202, lo_203, jp_nn, jp_eq, jp_e1, Classical.not_not, ji0, ji1, ji2, jl_0, jl_1, jl_2, jl_3, jl_4, jl_5, jl_6, jl_7, jl_8, jl_9, jl_10, jl_11, jl_12, jl_13, jl_14, jl_15, jl_16, jl_17, jl_18, jl_19, jl_20, jl_21, jl_22, jl_23, jl_24, jl_25, jl_26, jl_27, jl_28, jl_29, jl_30, jl_31, jl_32, jl_33, jl_34, jl_35, jl_36, jl_37, jl_38, jl_39, jl_40, jl_95, jl_96, jl_97, jl_98, jl_99, jl_100, jl_101, jl_102, jl_103, jl_104, jl_105, jl_106, jl_107, jl_108, jl_109, jl_110, jl_111, jl_112, jl_113, jl_114, jl_186, jl_1100, jr, ju, jpT, jpF, tnc, Nat.reduceEqDiff, reduceIte, and_false, false_and, not_true_eq_false, not_false_eq_true, or_false, gt_iff_lt, ge_iff_le, Int.lt_irrefl, Int.le_refl]
    exact hQ
  · exact hQ.elim
theorem m_2 : BodyOK CS21 CS21 2 := fun av h Q hQ => by
  rw [cs21_2] at hQ
  unfold k2 at hQ
  split at hQ
  · rename_i o
    obtain ⟨rfl, T, tN_w, byt, tok, tg, hQ⟩ := hQ
    show pS CS21 bb_2 [0, 0] h _
    unfold bb_2
    simp only [qe_1, qe_3, qe_4, qe_5, qe_7, qe_72, qe_10, qe_102, qe_13, qe_14, qe_15, qe_16, qe_17, qe_18, qe_20, qe_22, qe_23, qe_21, qe_24, qe_25, qe_26, qe_27, qe_28, qe_30, qe_31, qe_32, qc_20, qc_22, qc_23, qc_21, qc_24, qc_25, qc_26, qc_27, qc_1, qc_3, qc_4, qc_7, qc_13, qc_28, qc_32, qs_1, qs_2, qs_3, qs_4, qs_5, qs_6, qs_9, qs_10, qs_11, qs_14, qs_15, qs_16, qs_27, qs_17, qs_18, qs_19, qs_20, qs_22, qs_23, qs_28, qs_25, qs_26, qs_7, qs_8, kc_1, kn_1, kc_2, kn_2, kc_3, kn_3, kc_4, kn_4, kc_5, kn_5, kc_6, kn_6, kc_7, kn_7, kc_8, kn_8, kc_9, kn_9, kc_10, kn_10, kc_11, kn_11, kc_12, kn_12, kc_13, kn_13, kc_14, kn_14, kc_15, kn_15, kc_16, kc_17, kc_18, kc_19, kc_20, kc_21, kc_22, kc_23, kc_30, kc_32, kc_40, kc_43, kc_45, kc_48, kc_52, kc_56, kc_57, kc_59, kc_60, kc_61, kc_63, kc_64, kc_72, kc_78, kc_97, kc_99, kc_122, kc_126, kc_128, kc_192, kc_200, kc_255, kc_999, kc_1000, kc_9999, kn_9999, kc_10000, kc_12345, kc_65536, kc_252645135, kc_858993459, kc_1103515245, kc_1431655765, kc_2147483647, kc_0, kc_24, kc_28, kc_37, kc_41, kc_42, kc_73, kc_91, kc_95, kc_96, kc_98, kc_100, kc_112, kc_125, kc_150, kc_162, kc_163, kc_168, kc_186, kc_190, kc_250, kc_355, kc_356, kc_404, kc_405, kc_429, kc_573, kc_1002, kc_1100, kc_1891, kc_2200, kc_4719, kc_4869, kc_4881, kc_5148, kc_19741, kc_25433, kc_320403, kc_628412, kc_629093, kc_660401, kc_679843, kc_918640, kc_979410, kc_1178088, kc_6232410, kc_24644941, kc_36238189, kc_38270444, kc_392531318, kc_425693491, kc_1342154595, kc_2147483648, kc_42328242873, kc_891704255789, kc_1722105685577, kc_1858726030364, ct_0, ct_1, ct_2, ct_3, ct_4, ct_5, cf_0, cf_1, cf_2, cf_3, cf_4, cf_5, w_ty6, w_ty7, m_sv, m_z0, m_hd, m_g0, m_gs, m_s0, m_ss, m_ap, m_an, forall_const, true_and, and_true, ne_eq, not_true_eq_false, not_false_eq_true, false_implies, true_implies, implies_true, eq_self, reduceCtorEq, Nat.reduceDiv, Nat.reduceMod, Int.reduceToNat, or_true, true_or, or_false, false_or, or_self, m_it, m_if, m_c1, m_01, m_02, m_03, m_04, m_10, m_12, m_13, m_14, m_20, m_21, m_23, m_24, m_30, m_31, m_32, m_34, m_40, m_41, m_42, m_43, Int.reduceLE, Int.reduceLT, Int.reduceGE, Int.reduceGT, Int.reduceNeg, Int.reduceAdd, Int.reduceSub, Int.reduceMul, Int.reduceEq, Int.reduceNe, Nat.reduceAdd, jun2, ro_0_0, ro_0_1, ro_0_2, ro_0_3, ro_0_4, ro_0_5, ro_0_6, ro_0_7, ro_0_8, ro_0_9, ro_0_10, ro_0_11, ro_0_12, ro_1_0, ro_1_1, ro_2_0, ro_4_0, ro_6_0, ro_6_1, ro_6_2, ro_6_3, ro_6_4, ro_6_5, ro_6_6, ro_6_7, ro_6_8, ro_8_0, ro_10_0, ro_12_0, ro_14_0, ro_16_0, ro_18_0, ro_20_0, ro_22_0, ro_22_1, ro_22_2, ro_23_0, ro_25_0, ro_27_0, ro_29_0, ro_29_1, ro_29_2, ro_29_3, ro_29_4, ro_29_5, ro_29_6, ro_29_7, ro_29_8, ro_31_0, ro_33_0, ro_35_0, ro_37_0, ro_39_0, ro_41_0, ro_43_0, ro_45_0, ro_45_1, ro_45_2, ro_46_0, ro_48_0, ro_50_0, ro_52_0, ro_52_1, ro_52_2, ro_52_3, ro_53_0, ro_55_0, ro_57_0, ro_59_0, ro_61_0, ro_61_1, ro_61_2, ro_61_3, ro_62_0, ro_64_0, ro_66_0, ro_68_0, ro_70_0, ro_70_1, ro_70_2, ro_70_3, ro_70_4, ro_70_5, ro_70_6, ro_70_7, ro_70_8, ro_70_9, ro_71_0, ro_73_0, ro_75_0, ro_77_0, ro_79_0, ro_81_0, ro_83_0, ro_85_0, ro_87_0, ro_89_0, ro_91_0, ro_91_1, ro_91_2, ro_91_3, ro_91_4, ro_91_5, ro_91_6, ro_91_7, ro_91_8, ro_91_9, ro_92_0, ro_94_0, ro_96_0, ro_98_0, ro_100_0, ro_102_0, ro_104_0, ro_106_0, ro_108_0, ro_110_0, ro_112_0, ro_112_1, ro_112_2, ro_112_3, ro_112_4, ro_112_5, ro_112_6, ro_112_7, ro_112_8, ro_112_9, ro_113_0, ro_115_0, ro_117_0, ro_119_0, ro_121_0, ro_123_0, ro_125_0, ro_127_0, ro_129_0, ro_131_0, ro_133_0, ro_133_1, ro_133_2, ro_133_3, ro_133_4, ro_133_5, ro_133_6, ro_133_7, ro_133_8, ro_133_9, ro_134_0, ro_136_0, ro_138_0, ro_140_0, ro_142_0, ro_144_0, ro_146_0, ro_148_0, ro_150_0, ro_152_0, ro_154_0, ro_155_0, ro_157_0, ro_157_1, ro_157_2, ro_157_3, ro_157_4, ro_157_5, ro_157_6, ro_157_7, ro_157_8, ro_157_9, ro_158_0, ro_160_0, ro_162_0, ro_164_0, ro_166_0, ro_168_0, ro_170_0, ro_172_0, ro_174_0, ro_176_0, ro_178_0, ro_180_0, ro_182_1, ro_182_4, ro_182_5, ro_182_6, ro_182_9, ro_182_10, ro_182_11, ro_182_13, ro_182_14, ro_182_15, ro_182_16, ro_182_17, ro_182_20, ro_182_21, ro_182_22, ro_182_23, ro_182_24, ro_182_26, ro_182_27, ro_182_28, lo_3, lo_5, lo_7, lo_9, lo_11, lo_13, lo_15, lo_17, lo_19, lo_21, lo_24, lo_26, lo_28, lo_30, lo_32, lo_34, lo_36, lo_38, lo_40, lo_42, lo_44, lo_47, lo_49, lo_51, lo_54, lo_56, lo_58, lo_60, lo_63, lo_65, lo_67, lo_69, lo_72, lo_74, lo_76, lo_78, lo_80, lo_82, lo_84, lo_86, lo_88, lo_90, lo_93, lo_95, lo_97, lo_99, lo_101, lo_103, lo_105, lo_107, lo_109, lo_111, lo_114, lo_116, lo_118, lo_120, lo_122, lo_124, lo_126, lo_128, lo_130, lo_132, lo_135, lo_137, lo_139, lo_141, lo_143, lo_145, lo_147, lo_149, lo_151, lo_153, lo_156, lo_159, lo_161, lo_163, lo_165, lo_167, lo_169, lo_171, lo_173, lo_175, lo_177, lo_179, lo_181, lo_183, lo_184, lo_185, lo_186, lo_187, lo_188, lo_189, lo_190, lo_191, lo_192, lo_193, lo_194, lo_195, lo_196, lo_197, lo_198, lo_199, lo_200, lo_201, lo_202, lo_203, jp_nn, jp_eq, jp_e1, Classical.not_not, ji0, ji1, ji2, cs21_119, kk_119, cs21_97, kk_97, cs21_3, kk_3, cs21_61, kk_61, jl_0, jl_1, jl_2, jl_3, jl_4, jl_5, jl_6, jl_7, jl_8, jl_9, jl_10, jl_11, jl_12, jl_13, jl_14, jl_15, jl_16, jl_17, jl_18, jl_19, jl_20, jl_21, jl_22, jl_23, jl_24, jl_25, jl_26, jl_27, jl_28, jl_29, jl_30, jl_31, jl_32, jl_33, jl_34, jl_35, jl_36, jl_37, jl_38, jl_39, jl_40, jl_95, jl_96, jl_97, jl_98, jl_99, jl_100, jl_101, jl_102, jl_103, jl_104, jl_105, jl_106, jl_107, jl_108, jl_109, jl_110, jl_111, jl_112, jl_113, jl_114, jl_186, jl_1100, jr, ju, jpT, jpF, tnc, Nat.reduceEqDiff, reduceIte, and_false, false_and, not_true_eq_false, not_false_eq_true, or_false, gt_iff_lt, ge_iff_le, Int.lt_irrefl, Int.le_refl]
    refine ⟨T, tN_w, byt, tok, tg, fun f h1 e f1_w => ?_, fun D h1 e f1_w cd1 => ?_⟩
    · have er : resG (tS T) (tP T) (tV T) wl = f := by
        unfold resG
        rw [e]
      rw [er] at hQ
      by_cases y : f = 0
      · subst y
        simp only [qe_1, qe_3, qe_4, qe_5, qe_7, qe_72, qe_10, qe_102, qe_13, qe_14, qe_15, qe_16, qe_17, qe_18, qe_20, qe_22, qe_23, qe_21, qe_24, qe_25, qe_26, qe_27, qe_28, qe_30, qe_31, qe_32, qc_20, qc_22, qc_23, qc_21, qc_24, qc_25, qc_26, qc_27, qc_1, qc_3, qc_4, qc_7, qc_13, qc_28, qc_32, qs_1, qs_2, qs_3, qs_4, qs_5, qs_6, qs_9, qs_10, qs_11, qs_14, qs_15, qs_16, qs_27, qs_17, qs_18, qs_19, qs_20, qs_22, qs_23, qs_28, qs_25, qs_26, qs_7, qs_8, kc_1, kn_1, kc_2, kn_2, kc_3, kn_3, kc_4, kn_4, kc_5, kn_5, kc_6, kn_6, kc_7, kn_7, kc_8, kn_8, kc_9, kn_9, kc_10, kn_10, kc_11, kn_11, kc_12, kn_12, kc_13, kn_13, kc_14, kn_14, kc_15, kn_15, kc_16, kc_17, kc_18, kc_19, kc_20, kc_21, kc_22, kc_23, kc_30, kc_32, kc_40, kc_43, kc_45, kc_48, kc_52, kc_56, kc_57, kc_59, kc_60, kc_61, kc_63, kc_64, kc_72, kc_78, kc_97, kc_99, kc_122, kc_126, kc_128, kc_192, kc_200, kc_255, kc_999, kc_1000, kc_9999, kn_9999, kc_10000, kc_12345, kc_65536, kc_252645135, kc_858993459, kc_1103515245, kc_1431655765, kc_2147483647, kc_0, kc_24, kc_28, kc_37, kc_41, kc_42, kc_73, kc_91, kc_95, kc_96, kc_98, kc_100, kc_112, kc_125, kc_150, kc_162, kc_163, kc_168, kc_186, kc_190, kc_250, kc_355, kc_356, kc_404, kc_405, kc_429, kc_573, kc_1002, kc_1100, kc_1891, kc_2200, kc_4719, kc_4869, kc_4881, kc_5148, kc_19741, kc_25433, kc_320403, kc_628412, kc_629093, kc_660401, kc_679843, kc_918640, kc_979410, kc_1178088, kc_6232410, kc_24644941, kc_36238189, kc_38270444, kc_392531318, kc_425693491, kc_1342154595, kc_2147483648, kc_42328242873, kc_891704255789, kc_1722105685577, kc_1858726030364, ct_0, ct_1, ct_2, ct_3, ct_4, ct_5, cf_0, cf_1, cf_2, cf_3, cf_4, cf_5, w_ty6, w_ty7, m_sv, m_z0, m_hd, m_g0, m_gs, m_s0, m_ss, m_ap, m_an, forall_const, true_and, and_true, ne_eq, not_true_eq_false, not_false_eq_true, false_implies, true_implies, implies_true, eq_self, reduceCtorEq, Nat.reduceDiv, Nat.reduceMod, Int.reduceToNat, or_true, true_or, or_false, false_or, or_self, m_it, m_if, m_c1, m_01, m_02, m_03, m_04, m_10, m_12, m_13, m_14, m_20, m_21, m_23, m_24, m_30, m_31, m_32, m_34, m_40, m_41, m_42, m_43, Int.reduceLE, Int.reduceLT, Int.reduceGE, Int.reduceGT, Int.reduceNeg, Int.reduceAdd, Int.reduceSub, Int.reduceMul, Int.reduceEq, Int.reduceNe, Nat.reduceAdd, jun2, ro_0_0, ro_0_1, ro_0_2, ro_0_3, ro_0_4, ro_0_5, ro_0_6, ro_0_7, ro_0_8, ro_0_9, ro_0_10, ro_0_11, ro_0_12, ro_1_0, ro_1_1, ro_2_0, ro_4_0, ro_6_0, ro_6_1, ro_6_2, ro_6_3, ro_6_4, ro_6_5, ro_6_6, ro_6_7, ro_6_8, ro_8_0, ro_10_0, ro_12_0, ro_14_0, ro_16_0, ro_18_0, ro_20_0, ro_22_0, ro_22_1, ro_22_2, ro_23_0, ro_25_0, ro_27_0, ro_29_0, ro_29_1, ro_29_2, ro_29_3, ro_29_4, ro_29_5, ro_29_6, ro_29_7, ro_29_8, ro_31_0, ro_33_0, ro_35_0, ro_37_0, ro_39_0, ro_41_0, ro_43_0, ro_45_0, ro_45_1, ro_45_2, ro_46_0, ro_48_0, ro_50_0, ro_52_0, ro_52_1, ro_52_2, ro_52_3, ro_53_0, ro_55_0, ro_57_0, ro_59_0, ro_61_0, ro_61_1, ro_61_2, ro_61_3, ro_62_0, ro_64_0, ro_66_0, ro_68_0, ro_70_0, ro_70_1, ro_70_2, ro_70_3, ro_70_4, ro_70_5, ro_70_6, ro_70_7, ro_70_8, ro_70_9, ro_71_0, ro_73_0, ro_75_0, ro_77_0, ro_79_0, ro_81_0, ro_83_0, ro_85_0, ro_87_0, ro_89_0, ro_91_0, ro_91_1, ro_91_2, ro_91_3, ro_91_4, ro_91_5, ro_91_6, ro_91_7, ro_91_8, ro_91_9, ro_92_0, ro_94_0, ro_96_0, ro_98_0, ro_100_0, ro_102_0, ro_104_0, ro_106_0, ro_108_0, ro_110_0, ro_112_0, ro_112_1, ro_112_2, ro_112_3, ro_112_4, ro_112_5, ro_112_6, ro_112_7, ro_112_8, ro_112_9, ro_113_0, ro_115_0, ro_117_0, ro_119_0, ro_121_0, ro_123_0, ro_125_0, ro_127_0, ro_129_0, ro_131_0, ro_133_0, ro_133_1, ro_133_2, ro_133_3, ro_133_4, ro_133_5, ro_133_6, ro_133_7, ro_133_8, ro_133_9, ro_134_0, ro_136_0, ro_138_0, ro_140_0, ro_142_0, ro_144_0, ro_146_0, ro_148_0, ro_150_0, ro_152_0, ro_154_0, ro_155_0, ro_157_0, ro_157_1, ro_157_2, ro_157_3, ro_157_4, ro_157_5, ro_157_6, ro_157_7, ro_157_8, ro_157_9, ro_158_0, ro_160_0, ro_162_0, ro_164_0, ro_166_0, ro_168_0, ro_170_0, ro_172_0, ro_174_0, ro_176_0, ro_178_0, ro_180_0, ro_182_1, ro_182_4, ro_182_5, ro_182_6, ro_182_9, ro_182_10, ro_182_11, ro_182_13, ro_182_14, ro_182_15, ro_182_16, ro_182_17, ro_182_20, ro_182_21, ro_182_22, ro_182_23, ro_182_24, ro_182_26, ro_182_27, ro_182_28, lo_3, lo_5, lo_7, lo_9, lo_11, lo_13, lo_15, lo_17, lo_19, lo_21, lo_24, lo_26, lo_28, lo_30, lo_32, lo_34, lo_36, lo_38, lo_40, lo_42, lo_44, lo_47, lo_49, lo_51, lo_54, lo_56, lo_58, lo_60, lo_63, lo_65, lo_67, lo_69, lo_72, lo_74, lo_76, lo_78, lo_80, lo_82, lo_84, lo_86, lo_88, lo_90, lo_93, lo_95, lo_97, lo_99, lo_101, lo_103, lo_105, lo_107, lo_109, lo_111, lo_114, lo_116, lo_118, lo_120, lo_122, lo_124, lo_126, lo_128, lo_130, lo_132, lo_135, lo_137, lo_139, lo_141, lo_143, lo_145, lo_147, lo_149, lo_151, lo_153, lo_156, lo_159, lo_161, lo_163, lo_165, lo_167, lo_169, lo_171, lo_173, lo_175, lo_177, lo_179, lo_181, lo_183, lo_184, lo_185, lo_186, lo_187, lo_188, lo_189, lo_190, lo_191, lo_192, lo_193, lo_194, lo_195, lo_196, lo_197, lo_198, lo_199, lo_200, lo_201, lo_202, lo_203, jp_nn, jp_eq, jp_e1, Classical.not_not, ji0, ji1, ji2, cs21_119, kk_119, cs21_97, kk_97, cs21_3, kk_3, cs21_61, kk_61, jl_0, jl_1, jl_2, jl_3, jl_4, jl_5, jl_6, jl_7, jl_8, jl_9, jl_10, jl_11, jl_12, jl_13, jl_14, jl_15, jl_16, jl_17, jl_18, jl_19, jl_20, jl_21, jl_22, jl_23, jl_24, jl_25, jl_26, jl_27, jl_28, jl_29, jl_30, jl_31, jl_32, jl_33, jl_34, jl_35, jl_36, jl_37, jl_38, jl_39, jl_40, jl_95, jl_96, jl_97, jl_98, jl_99, jl_100, jl_101, jl_102, jl_103, jl_104, jl_105, jl_106, jl_107, jl_108, jl_109, jl_110, jl_111, jl_112, jl_113, jl_114, jl_186, jl_1100, jr, ju, jpT, jpF, tnc, Nat.reduceEqDiff, reduceIte, and_false, false_and, not_true_eq_false, not_false_eq_true, or_false, gt_iff_lt, ge_iff_le, Int.lt_irrefl, Int.le_refl]
        intros
        exact hQ _
      · simp only [qe_1, qe_3, qe_4, qe_5, qe_7, qe_72, qe_10, qe_102, qe_13, qe_14, qe_15, qe_16, qe_17, qe_18, qe_20, qe_22, qe_23, qe_21, qe_24, qe_25, qe_26, qe_27, qe_28, qe_30, qe_31, qe_32, qc_20, qc_22, qc_23, qc_21, qc_24, qc_25, qc_26, qc_27, qc_1, qc_3, qc_4, qc_7, qc_13, qc_28, qc_32, qs_1, qs_2, qs_3, qs_4, qs_5, qs_6, qs_9, qs_10, qs_11, qs_14, qs_15, qs_16, qs_27, qs_17, qs_18, qs_19, qs_20, qs_22, qs_23, qs_28, qs_25, qs_26, qs_7, qs_8, kc_1, kn_1, kc_2, kn_2, kc_3, kn_3, kc_4, kn_4, kc_5, kn_5, kc_6, kn_6, kc_7, kn_7, kc_8, kn_8, kc_9, kn_9, kc_10, kn_10, kc_11, kn_11, kc_12, kn_12, kc_13, kn_13, kc_14, kn_14, kc_15, kn_15, kc_16, kc_17, kc_18, kc_19, kc_20, kc_21, kc_22, kc_23, kc_30, kc_32, kc_40, kc_43, kc_45, kc_48, kc_52, kc_56, kc_57, kc_59, kc_60, kc_61, kc_63, kc_64, kc_72, kc_78, kc_97, kc_99, kc_122, kc_126, kc_128, kc_192, kc_200, kc_255, kc_999, kc_1000, kc_9999, kn_9999, kc_10000, kc_12345, kc_65536, kc_252645135, kc_858993459, kc_1103515245, kc_1431655765, kc_2147483647, kc_0, kc_24, kc_28, kc_37, kc_41, kc_42, kc_73, kc_91, kc_95, kc_96, kc_98, kc_100, kc_112, kc_125, kc_150, kc_162, kc_163, kc_168, kc_186, kc_190, kc_250, kc_355, kc_356, kc_404, kc_405, kc_429, kc_573, kc_1002, kc_1100, kc_1891, kc_2200, kc_4719, kc_4869, kc_4881, kc_5148, kc_19741, kc_25433, kc_320403, kc_628412, kc_629093, kc_660401, kc_679843, kc_918640, kc_979410, kc_1178088, kc_6232410, kc_24644941, kc_36238189, kc_38270444, kc_392531318, kc_425693491, kc_1342154595, kc_2147483648, kc_42328242873, kc_891704255789, kc_1722105685577, kc_1858726030364, ct_0, ct_1, ct_2, ct_3, ct_4, ct_5, cf_0, cf_1, cf_2, cf_3, cf_4, cf_5, w_ty6, w_ty7, m_sv, m_z0, m_hd, m_g0, m_gs, m_s0, m_ss, m_ap, m_an, forall_const, true_and, and_true, ne_eq, not_true_eq_false, not_false_eq_true, false_implies, true_implies, implies_true, eq_self, reduceCtorEq, Nat.reduceDiv, Nat.reduceMod, Int.reduceToNat, or_true, true_or, or_false, false_or, or_self, m_it, m_if, m_c1, m_01, m_02, m_03, m_04, m_10, m_12, m_13, m_14, m_20, m_21, m_23, m_24, m_30, m_31, m_32, m_34, m_40, m_41, m_42, m_43, Int.reduceLE, Int.reduceLT, Int.reduceGE, Int.reduceGT, Int.reduceNeg, Int.reduceAdd, Int.reduceSub, Int.reduceMul, Int.reduceEq, Int.reduceNe, Nat.reduceAdd, jun2, ro_0_0, ro_0_1, ro_0_2, ro_0_3, ro_0_4, ro_0_5, ro_0_6, ro_0_7, ro_0_8, ro_0_9, ro_0_10, ro_0_11, ro_0_12, ro_1_0, ro_1_1, ro_2_0, ro_4_0, ro_6_0, ro_6_1, ro_6_2, ro_6_3, ro_6_4, ro_6_5, ro_6_6, ro_6_7, ro_6_8, ro_8_0, ro_10_0, ro_12_0, ro_14_0, ro_16_0, ro_18_0, ro_20_0, ro_22_0, ro_22_1, ro_22_2, ro_23_0, ro_25_0, ro_27_0, ro_29_0, ro_29_1, ro_29_2, ro_29_3, ro_29_4, ro_29_5, ro_29_6, ro_29_7, ro_29_8, ro_31_0, ro_33_0, ro_35_0, ro_37_0, ro_39_0, ro_41_0, ro_43_0, ro_45_0, ro_45_1, ro_45_2, ro_46_0, ro_48_0, ro_50_0, ro_52_0, ro_52_1, ro_52_2, ro_52_3, ro_53_0, ro_55_0, ro_57_0, ro_59_0, ro_61_0, ro_61_1, ro_61_2, ro_61_3, ro_62_0, ro_64_0, ro_66_0, ro_68_0, ro_70_0, ro_70_1, ro_70_2, ro_70_3, ro_70_4, ro_70_5, ro_70_6, ro_70_7, ro_70_8, ro_70_9, ro_71_0, ro_73_0, ro_75_0, ro_77_0, ro_79_0, ro_81_0, ro_83_0, ro_85_0, ro_87_0, ro_89_0, ro_91_0, ro_91_1, ro_91_2, ro_91_3, ro_91_4, ro_91_5, ro_91_6, ro_91_7, ro_91_8, ro_91_9, ro_92_0, ro_94_0, ro_96_0, ro_98_0, ro_100_0, ro_102_0, ro_104_0, ro_106_0, ro_108_0, ro_110_0, ro_112_0, ro_112_1, ro_112_2, ro_112_3, ro_112_4, ro_112_5, ro_112_6, ro_112_7, ro_112_8, ro_112_9, ro_113_0, ro_115_0, ro_117_0, ro_119_0, ro_121_0, ro_123_0, ro_125_0, ro_127_0, ro_129_0, ro_131_0, ro_133_0, ro_133_1, ro_133_2, ro_133_3, ro_133_4, ro_133_5, ro_133_6, ro_133_7, ro_133_8, ro_133_9, ro_134_0, ro_136_0, ro_138_0, ro_140_0, ro_142_0, ro_144_0, ro_146_0, ro_148_0, ro_150_0, ro_152_0, ro_154_0, ro_155_0, ro_157_0, ro_157_1, ro_157_2, ro_157_3, ro_157_4, ro_157_5, ro_157_6, ro_157_7, ro_157_8, ro_157_9, ro_158_0, ro_160_0, ro_162_0, ro_164_0, ro_166_0, ro_168_0, ro_170_0, ro_172_0, ro_174_0, ro_176_0, ro_178_0, ro_180_0, ro_182_1, ro_182_4, ro_182_5, ro_182_6, ro_182_9, ro_182_10, ro_182_11, ro_182_13, ro_182_14, ro_182_15, ro_182_16, ro_182_17, ro_182_20, ro_182_21, ro_182_22, ro_182_23, ro_182_24, ro_182_26, ro_182_27, ro_182_28, lo_3, lo_5, lo_7, lo_9, lo_11, lo_13, lo_15, lo_17, lo_19, lo_21, lo_24, lo_26, lo_28, lo_30, lo_32, lo_34, lo_36, lo_38, lo_40, lo_42, lo_44, lo_47, lo_49, lo_51, lo_54, lo_56, lo_58, lo_60, lo_63, lo_65, lo_67, lo_69, lo_72, lo_74, lo_76, lo_78, lo_80, lo_82, lo_84, lo_86, lo_88, lo_90, lo_93, lo_95, lo_97, lo_99, lo_101, lo_103, lo_105, lo_107, lo_109, lo_111, lo_114, lo_116, lo_118, lo_120, lo_122, lo_124, lo_126, lo_128, lo_130, lo_132, lo_135, lo_137, lo_139, lo_141, lo_143, lo_145, lo_147, lo_149, lo_151, lo_153, lo_156, lo_159, lo_161, lo_163, lo_165, lo_167, lo_169, lo_171, lo_173, lo_175, lo_177, lo_179, lo_181, lo_183, lo_184, lo_185, lo_186, lo_187, lo_188, lo_189, lo_190, lo_191, lo_192, lo_193, lo_194, lo_195, lo_196, lo_197, lo_198, lo_199, lo_200, lo_201, lo_202, lo_203, jp_nn, jp_eq, jp_e1, Classical.not_not, ji0, ji1, ji2, cs21_119, kk_119, cs21_97, kk_97, cs21_3, kk_3, cs21_61, kk_61, jl_0, jl_1, jl_2, jl_3, jl_4, jl_5, jl_6, jl_7, jl_8, jl_9, jl_10, jl_11, jl_12, jl_13, jl_14, jl_15, jl_16, jl_17, jl_18, jl_19, jl_20, jl_21, jl_22, jl_23, jl_24, jl_25, jl_26, jl_27, jl_28, jl_29, jl_30, jl_31, jl_32, jl_33, jl_34, jl_35, jl_36, jl_37, jl_38, jl_39, jl_40, jl_95, jl_96, jl_97, jl_98, jl_99, jl_100, jl_101, jl_102, jl_103, jl_104, jl_105, jl_106, jl_107, jl_108, jl_109, jl_110, jl_111, jl_112, jl_113, jl_114, jl_186, jl_1100, jr, ju, jpT, jpF, tnc, Nat.reduceEqDiff, reduceIte, and_false, false_and, not_true_eq_false, not_false_eq_true, or_false, gt_iff_lt, ge_iff_le, Int.lt_irrefl, Int.le_refl, y]
        exact hQ _
    · have er : resG (tS T) (tP T) (tV T) wl = 0 := by
        unfold resG
        rw [e]
      rw [er] at hQ
      intros
      exact hQ _
  · exact hQ.elim
theorem snd_21 {xs : Nat → Int} {L K : Nat} : ∀ n, SndC CS21 (evF xs L g_ck K g_cW g_M n) := snd_all snd_20 (fun f av h Q hQ => by
  unfold CS21 at hQ
  split at hQ
  · exact Or.inr m_61
  · exact Or.inr m_2
  · exact Or.inl hQ)
/-! ===== the bytes_w of both_w, and what is_w cut_w of them ===== -/
theorem w37_e {b b' : Nat → Int} {a : Nat} : ∀ m : Nat, (∀ q, a ≤ q → q < a + m → b q = b' q) → w37 b a m = w37 b' a m
  | 0, _ => rfl
  | m + 1, h => by
    rw [w37, w37, w37_e m (fun q z1 z2 => h q z1 (by omega)), h (a + m) (by omega) (by omega)]
theorem wdc_e {b b' : Nat → Int} {a : Nat} : ∀ m : Nat, (∀ q, a ≤ q → q < a + m → b q = b' q) → wdc b a m = wdc b' a m
  | 0, _ => rfl
  | m + 1, h => by
    rw [wdc, wdc, wdc_e m (fun q z1 z2 => h q z1 (by omega)), h (a + m) (by omega) (by omega)]
theorem TKN.eq {b b' : Nat → Int} {n p q : Nat} {s pl v : Int} (t : TKN b n p q s pl v) (h : ∀ k, k < n → b k = b' k) : TKN b' n p q s pl v := by
  obtain ⟨a, a1_w, a2, a3, a4, a5, a6, a7⟩ := t
  have e : ∀ k, k < q → b k = b' k := fun k z => h k (by omega)
  refine ⟨a, a1_w, a2, a3, fun k z1 z2 => by rw [← e k (by omega)]; exact a4 k z1 z2, by rw [← e a a2]; exact a5, a6, ?_⟩
  rcases a7 with ⟨u1, u2_w, u3, u4_w, u5⟩ | ⟨u1, u2_w, u3, u4_w, u5⟩ | ⟨u1, u2_w, u3, u4_w, u5⟩
  · refine Or.inl ⟨by rw [← e a a2]; exact u1, fun k z1 z2 => by rw [← e k z2]; exact u2_w k z1 z2, ?_, u4_w, fun z => (u5 z).trans (w37_e _ (fun k z1 z2 => e k (by omega)))⟩
    by_cases y : q = n
    · exact Or.inl y
    · rw [← h q (by omega)]
      exact u3
  · refine Or.inr (Or.inl ⟨by rw [← e a a2]; exact u1, fun k z1 z2 => by rw [← e k z2]; exact u2_w k z1 z2, ?_, u4_w, fun z => (u5 z).trans (wdc_e _ (fun k z1 z2 => e k (by omega)))⟩)
    by_cases y : q = n
    · exact Or.inl y
    · rw [← h q (by omega)]
      exact u3
  · rw [e a a2] at u1 u2_w u4_w u5
    exact Or.inr (Or.inr ⟨u1, u2_w, u3, u4_w, u5⟩)
theorem TOK.eq {b b' : Nat → Int} {n N : Nat} {S P V : Nat → Int} (t : TOK b n N S P V) (h : ∀ k, k < n → b k = b' k) : TOK b' n N S P V := by
  obtain ⟨⟨pos_w, p0, p1_w, p2_w, p3_w⟩, s, p⟩ := t
  exact ⟨⟨pos_w, p0, fun j z => (p1_w j z).eq h, p2_w, fun k z1 z2 => by rw [← h k z2]; exact p3_w k z1 z2⟩, s, p⟩
theorem TOK.le {b : Nat → Int} {n N : Nat} {S P V : Nat → Int} (t : TOK b n N S P V) : N ≤ n := by
  obtain ⟨⟨pos_w, p0, p1_w, p2_w, p3_w⟩, s, p⟩ := t
  have k : ∀ j, j ≤ N → j ≤ pos_w j := fun j => by
    induction j with
    | zero => exact fun _ => Nat.zero_le _
    | succ j ih_w =>
      intro z
      obtain ⟨a, a1_w, a2, -⟩ := p1_w j z
      have := ih_w (by omega)
      omega
  have := k N (Nat.le_refl _)
  omega
theorem wdc_0 {b : Nat → Int} {a : Nat} : ∀ m : Nat, (∀ q, a ≤ q → q < a + m → isD (b q)) → 0 ≤ wdc b a m
  | 0, _ => Int.le_refl _
  | m + 1, h => by
    have ih_w := wdc_0 m (fun q z1 z2 => h q z1 (by omega))
    have l := h (a + m) (by omega) (by omega)
    rw [wdc]
    omega
theorem TOK.gd {b : Nat → Int} {n N : Nat} {S P V : Nat → Int} (t : TOK b n N S P V) : TGd (n, N, S, P, V) := by
  obtain ⟨⟨pos_w, p0, p1_w, p2_w, p3_w⟩, s, p⟩ := t
  intro i hi_w h2
  have hi' : i < N := hi_w
  have h2' : S i = 2 := h2
  show 0 ≤ V i
  obtain ⟨a, a1_w, a2, a3, a4, a5, a6, a7⟩ := p1_w i hi'
  rcases a7 with ⟨u1, u2_w, u3, u4_w, u5⟩ | ⟨u1, u2_w, u3, u4_w, u5⟩ | ⟨u1, u2_w, u3, u4_w, u5⟩
  · rw [u4_w] at h2'
    split at h2' <;> exact absurd h2' (by decide)
  · have h4 : pos_w (i + 1) - a ≤ 4 := by
      rw [u4_w] at h2'
      by_cases y : pos_w (i + 1) - a > 4
      · rw [if_pos y] at h2'; exact absurd h2' (by decide)
      · omega
    rw [u5 h4]
    exact wdc_0 _ (fun k z1 z2 => u2_w k z1 (by omega))
  · rw [u4_w] at h2'
    split at h2' <;> exact absurd h2' (by decide)
end
section
/-! ===== what lasts from call to call, the bytes_w and words told_w ===== -/
def Inv3 (h : XH) : Prop := Inv0 h ∧ SmB (h 2 1) (h 3) (h 183) ∧ h 187 = wl
def r_n3 (r : Nat) : Bool := r_nf r && !(m_W r).2.contains 3 && !(m_W r).2.contains 183 && !(m_W r).2.contains 187
section INV3
variable {xs : Nat → Int} {L K n : Nat} {c d : Nat} {h h' h1 h2 : XH}
theorem Inv3.kp (hI : Inv3 h) (h0 : Inv0 h') (e2_w : h' 2 1 = h 2 1) (e3_w : h' 3 = h 3) (e8 : h' 183 = h 183) (e9_w : h' 187 = h 187) : Inv3 h' := by
  obtain ⟨-, a, b⟩ := hI
  refine ⟨h0, ?_, e9_w.trans b⟩
  rw [e2_w, e3_w, e8]; exact a
theorem FR.rows (f : FR g_ro h h') : h' 2 1 = h 2 1 ∧ h' 3 = h 3 ∧ h' 183 = h 183 ∧ h' 187 = h 187 := ⟨f 2 1 ro_21, funext fun k => f 3 k ro_t, funext fun k => f 183 k (ro_ge (by decide)), funext fun k => f 187 k (ro_ge (by decide))⟩
/-- a call of the class that is_w neither feed nor grid nor work: what it leaves as_w it is_w -/
theorem cls_fr (hK_w : 4294967300 ≤ K) {f : Nat} (hd_w : g_dp f < n) (hd2 : g_dp f < 99999) {av : List Int} (hL : Lnk h) (hv : VL (fun _ => 0) a_g3 ((g_T 0).2.1 f) av) : ∃ cc r g' h', evF xs L g_ck K g_cW g_M n f av ((a_g3, c, d), h) = some (cc, r, (g', h')) ∧ FR g_ro h h' := by
  obtain ⟨k1_w, k2⟩ := g_cls (xs := xs) (L := L) (c := c) (d := d) hK_w n f hd_w hd2
  obtain ⟨cc, r, g', h', e1_w, e2_w, e3_w, e4_w⟩ := k1_w av h hL.1 hv
  exact ⟨cc, r, g', h', e1_w, e3_w⟩
theorem ref_3 {r : Nat} (hf : r_n3 r = true) {ws_w v : List Int} {g g' : XS × Nat × Nat} {cc : Nat} (hg : g.1 = a_g3) (e : evF xs L g_ck K g_cW g_M n r (182 :: ws_w) (g, h) = some (cc, v, (g', h'))) : r_nf r = true ∧ h' 2 1 = h 2 1 ∧ h' 3 = h 3 ∧ h' 183 = h 183 ∧ h' 187 = h 187 := by
  simp only [r_n3, Bool.and_eq_true, Bool.not_eq_true'] at hf
  obtain ⟨⟨⟨f1_w, f2_w⟩, f3_w⟩, f4_w⟩ := hf
  have f5_w := f1_w
  simp only [r_nf, Bool.and_eq_true, Bool.not_eq_true'] at f5_w
  obtain ⟨-, fr⟩ := fr_all n r (182 :: ws_w) _ _ _ _ _ _ f5_w.1.1.1.1 hg (Or.inr rfl) e
  exact ⟨f1_w, fr 2 1 (fun z => absurd z (by decide)) f5_w.2, funext fun k => fr 3 k (fun z => absurd z (by decide)) f2_w, funext fun k => fr 183 k (fun z => absurd z (by decide)) f3_w, funext fun k => fr 187 k (fun z => absurd z (by decide)) f4_w⟩
theorem pair_i3 (hK2 : 20000000000 ≤ K) (hn : n < 99999) {f r : Nat} (hd_w : g_dp f < n) (ht : g_THR f = false) (hr : r_dp r < n) (hf : r_n3 r = true) {vs ws_w : List Int} (ha_w : VL (fun _ => 0) a_g3 ((g_T 0).2.1 f) vs) (hv : ∀ P, IL P (qP (r_T 0) r) (182 :: ws_w)) (hI : Inv3 h) : ∃ (v1_w v2 : List Int) (h1 h2 : XH), evF xs L g_ck K g_cW g_M n f vs ((a_g3, c, d), h) = some (1, v1_w, ((a_g3, c, d), h1)) ∧ evF xs L g_ck K g_cW g_M n r (182 :: ws_w) ((a_g3, c, d), h1) = some (1, v2, ((a_g3, c, d), h2)) ∧ Inv3 h2 := by
  have f1_w : r_nf r = true := by
    simp only [r_n3, Bool.and_eq_true] at hf
    exact hf.1.1.1
  obtain ⟨v1_w, v2, h1, h2, e1_w, e2_w, e3_w⟩ := pair_inv (xs := xs) (L := L) (c := c) (d := d) hK2 hn hd_w ht hr f1_w ha_w hv hI.1
  obtain ⟨cc, r1_w, g', h1', q1_w, q2_w⟩ := cls_fr (xs := xs) (L := L) (K := K) (c := c) (d := d) (n := n) (f := f) (by omega) hd_w (by omega) hI.1.1 ha_w
  have u : h1' = h1 := by
    have t := q1_w.symm.trans e1_w
    cases t
    rfl
  subst u
  obtain ⟨a1_w, a2, a3, a4⟩ := q2_w.rows
  obtain ⟨-, b1, b2, b3, b4⟩ := ref_3 (g := (a_g3, c, d)) hf rfl e2_w
  exact ⟨v1_w, v2, h1', h2, e1_w, e2_w, hI.kp e3_w (b1.trans a1_w) (b2.trans a2) (b3.trans a3) (b4.trans a4)⟩
/-- one that catches: what it leaves as_w it is_w -/
theorem catch_fr (hK_w : 4294967300 ≤ K) {q f o ml_w : Nat} {pk_w rk : List Nat} {A : SX} {vs en : List Int} (hm_w : g_M q = (0, ml_w, pk_w, rk, sx 2 (sx 24 (sx 3 (sv o) z0 z0) A (sv f)) (sx 16 (sx 1 z0 (sv 1) z0) z0 z0) z0)) (hen : j_pad 0 ml_w (j_lay pk_w (vs ++ [203])) = en) (ho : en.getD o 0 = 203) (hA : ∀ st, evE xs L g_ck (evF xs L g_ck K g_cW g_M n) g_cW A en st = some (vs, st)) (hd_w : g_dp f < n) (hn : n < 99999) (hR : (g_T 0).2.2.1 f = [1]) (ha_w : VL (fun _ => 0) a_g3 ((g_T 0).2.1 f) vs) (hI : Inv0 h) :
    ∃ (v : List Int) (c' d' : Nat) (h' : XH), evF xs L g_ck K g_cW g_M (n + 1) q (vs ++ [203]) ((a_g3, c, d), h) = some (1, v, ((a_g3, c', d'), h')) ∧ Inv0 h' ∧ c' ≤ c + 1 ∧ d' ≤ d + 6 ∧ h' 2 1 = h 2 1 ∧ h' 3 = h 3 ∧ h' 183 = h 183 ∧ h' 187 = h 187 := by
  obtain ⟨cc, v1_w, g', h1, e1_w, e2_w, e3_w, e4_w⟩ := cls_lnk (xs := xs) (L := L) (K := K) (c := c) (d := d) (n := n) (f := f) hK_w hd_w (by omega) hI.1 ha_w
  obtain ⟨cc', r1', g1', h1', q1_w, q2_w⟩ := cls_fr (xs := xs) (L := L) (K := K) (c := c) (d := d) (n := n) (f := f) hK_w hd_w (by omega) hI.1 ha_w
  have u : h1' = h1 := by
    have t := q1_w.symm.trans e1_w
    cases t
    rfl
  subst u
  obtain ⟨a1_w, a2, a3, a4⟩ := q2_w.rows
  have hI1 : Inv0 h1' := ⟨e2_w, hI.2.kp e2_w.1 (fun o k a _ => e3_w o k a)⟩
  have key_w : ∀ r, evS xs L g_ck (evF xs L g_ck K g_cW g_M n) K g_cW (sx 2 (sx 24 (sx 3 (sv o) z0 z0) A (sv f)) (sx 16 (sx 1 z0 (sv 1) z0) z0 z0) z0) en ((a_g3, c, d), h) = some r → (r.1 = 1 ∨ r.1 = 4) ∧ c ≤ r.2.2.2.1.2.1 ∧ d ≤ r.2.2.2.1.2.2 ∧ (a_g3.map (·.1)).isPrefixOf (r.2.2.2.1.1.map (·.1)) = true → evF xs L g_ck K g_cW g_M (n + 1) q (vs ++ [203]) ((a_g3, c, d), h) = some (r.1, r.2.1, r.2.2.2) := fun r k1_w k2 => by
    unfold evF
    rw [hm_w]
    show (evS xs L g_ck (evF xs L g_ck K g_cW g_M n) K g_cW _ (j_pad 0 ml_w (j_lay pk_w (vs ++ [203]))) ((a_g3, c, d), h)).bind _ = _
    rw [hen, k1_w, Option.bind_some]
    exact if_pos k2
  rcases e4_w with ⟨rfl, rfl, hr⟩ | ⟨rfl, -, rfl⟩
  · rw [hR] at hr
    obtain ⟨v, rfl, hv⟩ := VL.one hr
    have u : ∀ o k : Nat, o ≠ 203 → j_up h1' 203 0 v o k = h1' o k := fun o k e => up_ne (fun z => e z.1)
    refine ⟨[0], c, d, j_up h1' 203 0 v, key_w (1, [0], en, ((a_g3, c, d), j_up h1' 203 0 v)) ?_ (chk_self (g := (a_g3, c, d))), out_inv hI1 (hv.1 rfl), by omega, by omega, (u 2 1 (by decide)).trans a1_w, (funext fun k => u 3 k (by decide)).trans a2, (funext fun k => u 183 k (by decide)).trans a3, (funext fun k => u 187 k (by decide)).trans a4⟩
    rw [es_2, es_24, es_16]
    unfold s_seq s_try
    rw [ee_3]
    show (((evE xs L g_ck (evF xs L g_ck K g_cW g_M n) g_cW A en ((a_g3, c, d), h)).bind _)).bind _ = _
    rw [hA, Option.bind_some]
    show ((evF xs L g_ck K g_cW g_M n f vs ((a_g3, c, d), h)).bind _).bind _ = _
    rw [e1_w, Option.bind_some]
    have z : j_hd [en.getD (sx_n (sv o)) 0] = 203 := ho
    simp only [z]
    rfl
  · refine ⟨[1], c + 1, d + 6, h1', key_w (1, [1], en, ((a_g3, c + 1, d + 6), h1')) ?_ (chk_one (c := c) (d := d)), hI1, by omega, by omega, a1_w, a2, a3, a4⟩
    rw [es_2, es_24, es_16]
    unfold s_seq s_try
    rw [ee_3]
    show (((evE xs L g_ck (evF xs L g_ck K g_cW g_M n) g_cW A en ((a_g3, c, d), h)).bind _)).bind _ = _
    rw [hA, Option.bind_some]
    show ((evF xs L g_ck K g_cW g_M n f vs ((a_g3, c, d), h)).bind _).bind _ = _
    rw [e1_w]
    rfl
theorem feed_i3 (hK_w : 4294967300 ≤ K) {a b e : Int} (hI : Inv3 h) : ∃ (v : Int) (h1 h2 : XH), evF xs L g_ck K g_cW g_M (n + 2) 1 [0, a, b, e] ((a_g3, c, d), h) = some (1, [v], ((a_g3, c, d), h1)) ∧ evF xs L g_ck K g_cW g_M (n + 2) 183 [182, a, b, e] ((a_g3, c, d), h1) = some (1, [v], ((a_g3, c, d), h2)) ∧ Inv3 h2 := by
  obtain ⟨v, h1, h2, e1_w, f1_w, hI2⟩ := feed_inv (xs := xs) (L := L) (K := K) (n := n) (c := c) (d := d) (a := a) (b := b) (e := e) hK_w hI.1
  obtain ⟨hI0, hS_w, hW⟩ := hI
  obtain ⟨hH, m0_w, m1_w, hm_w⟩ := hI0.1
  obtain ⟨h1', e1', g1⟩ := fqA2 (xs := xs) (L := L) (ck := g_ck) (cW := g_cW) (K := K) (n := n) (a := a) (b := b) (c := e) (g := (a_g3, c, d)) (h := h) (by omega) fg_1 fg_2 fg_3 fg_4 (by decide) rfl ⟨m0_w, m1_w⟩
  have ev_w : v = fclT (h 2 1) a b e ∧ h1' = h1 := by
    have t := e1'.symm.trans e1_w
    cases t
    exact ⟨rfl, rfl⟩
  obtain ⟨ev_w, u1⟩ := ev_w
  subst u1
  obtain ⟨h1'', e1'', z1, e3_w⟩ := fqA (xs := xs) (L := L) (ck := g_ck) (cW := g_cW) (K := K) (n := n) (a := a) (b := b) (c := e) (g := (a_g3, c, d)) (h := h) (by omega) fg_1 fg_2 fg_3 fg_4 (by decide) rfl ⟨m0_w, m1_w⟩
  have u2_w : h1'' = h1' := by
    have t := e1''.symm.trans e1_w
    cases t
    rfl
  subst u2_w
  have k1_w : KeptC h h1'' := e3_w (fun x => KeptC h x) (fun x m s p => by
    unfold upA
    split
    · intro o k ho
      have t2_w : (2 : Int).toNat = 2 := rfl
      have t3_w : (3 : Int).toNat = 3 := rfl
      rw [up_ne (fun z => by have := z.1; omega), up_ne (fun z => by have := z.1; omega)]
      exact p o k ho
    · exact p) (fun _ _ _ => rfl)
  have hm1 : h1'' 182 2 = h 2 1 := (k1_w 182 2 (Nat.le_refl _)).trans hm_w
  obtain ⟨h2', f1', g2⟩ := fqM2 (xs := xs) (L := L) (ck := g_ck) (cW := g_cW) (K := K) (n := n) (a := a) (b := b) (c := e) (g := (a_g3, c, d)) (h := h1'') (by omega) fg_5 fg_6 (by decide) hm1 ⟨m0_w, m1_w⟩
  have u3 : h2' = h2 := by
    have t := f1'.symm.trans f1_w
    cases t
    rfl
  subst u3
  obtain ⟨h2'', f1'', z2, f3_w⟩ := fqM (xs := xs) (L := L) (ck := g_ck) (cW := g_cW) (K := K) (n := n) (a := a) (b := b) (c := e) (g := (a_g3, c, d)) (h := h1'') (by omega) fg_5 fg_6 (by decide) hm1 ⟨m0_w, m1_w⟩
  have u4_w : h2'' = h2' := by
    have t := f1''.symm.trans f1_w
    cases t
    rfl
  subst u4_w
  have key_w := f3_w (fun x => ∀ o k : Nat, o ≠ 182 → o ≠ 183 → x o k = h1'' o k) (fun x m s _ p => by
    unfold upM
    split
    · intro o k a b
      have t2_w : (182 : Int).toNat = 182 := rfl
      have t3_w : (183 : Int).toNat = 183 := rfl
      rw [up_ne (fun z => by have := z.1; omega), up_ne (fun z => by have := z.1; omega)]
      exact p o k a b
    · exact p) (fun o k a _ => up_ne (fun z => a z.1))
  have w1_w : h1'' 3 = fcT (h 2 1) a b e (h 3) := g1
  have w2_w : h2'' 183 = fcT (h 2 1) a b e (h1'' 183) := g2
  have w3_w : h1'' 183 = h 183 := funext fun k => k1_w 183 k (by decide)
  have w4_w : h2'' 3 = h1'' 3 := funext fun k => key_w 3 k (by decide) (by decide)
  have w5 : h2'' 2 1 = fclT (h 2 1) a b e := (key_w 2 1 (by decide) (by decide)).trans z1
  refine ⟨v, h1'', h2'', e1_w, f1_w, hI2, ?_, ?_⟩
  · rw [w4_w, w1_w, w2_w, w3_w, w5]
    exact fcT_sm ⟨m0_w, m1_w⟩ hS_w
  · rw [← hW]
    exact funext fun k => (key_w 187 k (by decide) (by decide)).trans (k1_w 187 k (by decide))
theorem smB_0 {X Y : Nat → Int} : SmB 0 X Y := fun k z => absurd z (by omega)
theorem grid_i3 (hK2 : 20000000000 ≤ K) (hn : n + 41 < 99999) (hI : Inv3 h) : ∃ (v : Int) (h1 h2 : XH), evF xs L g_ck K g_cW g_M (n + 41) 2 [0] ((a_g3, c, d), h) = some (1, [v], ((a_g3, c, d), h1)) ∧ evF xs L g_ck K g_cW g_M (n + 41) 206 [182] ((a_g3, c, d), h1) = some (1, [v], ((a_g3, c, d), h2)) ∧ Inv3 h2 := by
  obtain ⟨v1_w, v2, h1, h2, e1_w, e2_w, e3_w⟩ := grid_inv (xs := xs) (L := L) (K := K) (c := c) (d := d) (n := n) hK2 hn hI.1
  obtain ⟨hI0, hS_w, hW⟩ := hI
  obtain ⟨hH, m0_w, m1_w, hm_w⟩ := hI0.1
  obtain ⟨v, h1', q1_w, q2_w, q3_w, q4_w⟩ := grid_ok (xs := xs) (L := L) (K := K) (c := c) (d := d) (n := n + 40) (by omega) (by omega) hH
  have u : v1_w = [v] ∧ h1' = h1 := by
    have t := q1_w.symm.trans e1_w
    cases t
    exact ⟨rfl, rfl⟩
  obtain ⟨rfl, u⟩ := u
  subst u
  -- what the reference_w answers_w
  have hm2 : h1' 182 2 = (((h 2 1).toNat : Nat) : Int) := by rw [q4_w 182 2 (Nat.le_refl _), hm_w]; omega
  have c206 : CS8 206 [182] h1' (fun k r h' => k = 1 → ∃ N S P V, TOK (h1' 183) (h 2 1).toNat N S P V ∧ r = [resG S P V (h1' 187)]) := by
    rw [cs8_206, kk_206]
    exact ⟨_, hm2, by omega, fun r h' ⟨N, S, P, V, a, b⟩ _ => ⟨N, S, P, V, a, by rw [b]⟩⟩
  obtain ⟨N, S, P, V, tok, er⟩ := (snd_8 (n + 41) _ _ _ _ _ c206 _ _ _ _ e2_w).2 rfl
  -- the class's answer_w is_w the same
  have eb : ∀ k : Nat, k < (h 2 1).toNat → h1' 183 k = h 3 k := fun k z => by
    rw [q4_w 183 k (by decide)]
    exact (hS_w k (by omega)).1.symm
  have tok2 : TOK (h 3) (h 2 1).toNat N S P V := tok.eq eb
  have c2 : CS21 2 [0] h (fun k r h' => k = 1 → r = [resG S P V wl]) := by
    rw [cs21_2, kk_2]
    refine ⟨((h 2 1).toNat, N, S, P, V), ?_, ⟨by show h 2 1 = (((h 2 1).toNat : Nat) : Int); omega, by show (h 2 1).toNat ≤ 1000; omega, fun k z => (hS_w k (by have : k < (h 2 1).toNat := z; omega)).2⟩, tok2, tok.gd, fun h' _ => rfl⟩
    have := tok.le
    show N ≤ 1000
    omega
  have ec := (snd_21 (n + 41) _ _ _ _ _ c2 _ _ _ _ e1_w).2 rfl
  have ew : h1' 187 = wl := (funext fun k => q4_w 187 k (by decide)).trans hW
  have e4_w : v2 = [v] := by rw [er, ew, ec]
  subst e4_w
  obtain ⟨-, fr⟩ := fr_all (n + 41) 206 [182] _ _ _ _ _ _ (by decide) rfl (Or.inr rfl) e2_w
  refine ⟨v, h1', h2, e1_w, e2_w, e3_w, ?_, ?_⟩
  · have qt : h2 2 1 = 0 := (fr 2 1 (fun z => absurd z (by decide)) (by decide)).trans q3_w
    rw [qt]
    exact smB_0
  · rw [← hW]
    exact funext fun k => (fr 187 k (fun z => absurd z (by decide)) (by decide)).trans (q4_w 187 k (by decide))
theorem work_i3 (hK2 : 20000000000 ≤ K) (hn : n + 41 < 99999) (hI : Inv3 h) : ∃ (v1_w v2 : List Int) (h1 h2 : XH), evF xs L g_ck K g_cW g_M (n + 41) 4 [0] ((a_g3, c, d), h) = some (1, v1_w, ((a_g3, c, d), h1)) ∧ evF xs L g_ck K g_cW g_M (n + 41) 214 [182] ((a_g3, c, d), h1) = some (1, v2, ((a_g3, c, d), h2)) ∧ Inv3 h2 := by
  obtain ⟨v1_w, v2, h1, h2, e1_w, e2_w, e3_w⟩ := work_inv (xs := xs) (L := L) (K := K) (c := c) (d := d) (n := n) hK2 hn hI.1
  obtain ⟨hI0, hS_w, hW⟩ := hI
  obtain ⟨v, h1', q1_w, q2_w, q3_w, q4_w⟩ := work_ok (xs := xs) (L := L) (K := K) (c := c) (d := d) (n := n + 40) (by omega) (by omega) hI0.1.1
  have u : h1' = h1 := by
    have t := q1_w.symm.trans e1_w
    cases t
    rfl
  subst u
  obtain ⟨-, fr⟩ := fr_all (n + 41) 214 [182] _ _ _ _ _ _ (by decide) rfl (Or.inr rfl) e2_w
  refine ⟨v1_w, v2, h1', h2, e1_w, e2_w, e3_w, ?_, ?_⟩
  · have qt : h2 2 1 = 0 := (fr 2 1 (fun z => absurd z (by decide)) (by decide)).trans q3_w
    rw [qt]
    exact smB_0
  · rw [← hW]
    exact funext fun k => (fr 187 k (fun z => absurd z (by decide)) (by decide)).trans (q4_w 187 k (by decide))
theorem i_wl : (List.range 24).all (fun k => decide (i0 187 k = wl k)) = true := by decide +kernel
theorem i_wl2 : (a_h3.getD 187 []).all (fun p => decide (p.1 < 24)) = true := by decide +kernel
theorem i_wl3 : i0 187 = wl := funext fun k => by
  by_cases z : k < 24
  · exact of_decide_eq_true (List.all_eq_true.mp i_wl k (List.mem_range.mpr z))
  · have e : wl k = 0 := by
      unfold wl
      rw [List.getD_eq_getElem?_getD, List.getElem?_eq_none (by show 24 ≤ k; omega)]
      rfl
    rw [e]
    unfold i0
    rw [lookH_row]
    rcases lookR_in (a_h3.getD 187 []) k with y | y
    · rw [y]
      rfl
    · exact absurd (of_decide_eq_true (List.all_eq_true.mp i_wl2 _ y)) z
theorem inv3_i0 : Inv3 i0 := by
  refine ⟨inv_i0, ?_, i_wl3⟩
  obtain ⟨q1_w, q2_w, q3_w, q4_w, q5_w, q6_w, q7_w⟩ := i_188
  rw [q6_w]
  exact smB_0
end INV3
end
section
/-! ===== the steps_w of the law_w, with what lasts ===== -/
section STEPS3
variable {xs : Nat → Int} {L K n : Nat} {i : Int} {I : XH → Prop} {F : XP}
theorem tv_x : TV (fun _ => 0) a_g3 10 0 := TV.ref (by decide) (by decide) ⟨by decide, kd_ty (q := 0) (kd := 10) (by decide +kernel)⟩
theorem jb_01 {b : Bool} : j_b b = 0 ∨ j_b b = 1 := by
  cases b
  · exact Or.inl rfl
  · exact Or.inr rfl
theorem tv_jb {b : Bool} : TV (fun _ => 0) a_g3 100 (j_b b) := TV.bool jb_01
theorem iv_jb {P : Int × Int} {b : Bool} : IV P (1, 0, 1) (j_b b) := by
  cases b
  · exact ⟨by decide, by decide, by decide, by decide⟩
  · exact ⟨by decide, by decide, by decide, by decide⟩
def lgV (a b : Int) : Int := j_lop 4 (j_lsh 0 a ((32 : Nat) : Int)) (j_lop 3 b ((4294967295 : Nat) : Int))
theorem lg_ev {F : XP} (hL : (L : Int) ≤ 2147483647) (h0 : 0 ≤ i) (h1 : i + 7 ≤ (L : Int)) (j k : Nat) (hj : j ≤ 6) (hk : k ≤ 6) (s t : Int) (st : XT) : evE xs L g_ck F g_cW (sx 15 (sx 16 (sx 18 (sA j) z0 (sv 2)) (sx 1 (sv 32) (sv 1) z0) z0) (sx 15 (sx 18 (sA k) z0 (sv 2)) (sx 1 (sv 4294967295) (sv 2) z0) (sv 3)) (sv 4)) (lwE i s t) st = some ([lgV (xs (i + (j : Int)).toNat) (xs (i + (k : Int)).toNat)], st) := by
  rw [ee_15, ee_16, ee_15, ee_1, ee_1, ee_18, ee_18]
  unfold n_bin
  simp only [sA_ev hL h0 h1 j hj, sA_ev hL h0 h1 k hk, Option.bind_some, j_hd, List.headD_cons, n_sv, n_z0, if_true, lgV]
  rfl
theorem arg_fd {F : XP} (hL : (L : Int) ≤ 2147483647) (h0 : 0 ≤ i) (h1 : i + 7 ≤ (L : Int)) : ArgE xs L F fwA i [lgV (xs (i + ((1 : Nat) : Int)).toNat) (xs (i + ((2 : Nat) : Int)).toNat), lgV (xs (i + ((3 : Nat) : Int)).toNat) (xs (i + ((4 : Nat) : Int)).toNat), lgV (xs (i + ((5 : Nat) : Int)).toNat) (xs (i + ((6 : Nat) : Int)).toNat)] :=
  arg_cons (lg_ev hL h0 h1 1 2 (by decide) (by decide)) (arg_cons (lg_ev hL h0 h1 3 4 (by decide) (by decide)) (arg_cons (lg_ev hL h0 h1 5 6 (by decide) (by decide)) arg_nil))
/-- a call of both_w, their answers_w compared: they are the same -/
theorem step_c {A B : SX} {f r : Nat} {vs ws_w : List Int} (hA : ArgE xs L F A i vs) (hB_w : ArgE xs L F B i ws_w) (hP : ∀ (c d : Nat) (h : XH), I h → ∃ (v : Int) (h1 h2 : XH), F f vs ((a_g3, c, d), h) = some (1, [v], ((a_g3, c, d), h1)) ∧ F r ws_w ((a_g3, c, d), h1) = some (1, [v], ((a_g3, c, d), h2)) ∧ I h2) :
    StepOK xs L K F I (sx 28 (sx 20 (sx 32 A (sv f) z0) (sx 32 B (sv r) z0) (sv 1)) (sx 27 (sx 1 z0 (sv 1) z0) z0 z0) z0) i := by
  intro s t c d h hI
  obtain ⟨v, h1, h2, e1_w, e2_w, e3_w⟩ := hP c d h hI
  refine ⟨s, t, c, d, h2, ?_, e3_w, by omega, by omega⟩
  have a1_w := hA s t ((a_g3, c, d), h)
  have a2 := hB_w s t ((a_g3, c, d), h1)
  rw [es_28]
  unfold s_if
  rw [ee_20]
  unfold n_cmp
  rw [ee_32, ee_32]
  unfold n_call
  simp only [a1_w, a2, Option.bind_some, n_sv, e1_w, e2_w, if_true]
  have z : j_cmp 1 (j_hd [v]) (j_hd [v]) = false := by simp [j_cmp]
  rw [z]
  exact if_pos rfl
theorem feed_s3 (hK2 : 20000000000 ≤ K) (a b e : Int) : ∀ (c d : Nat) (h : XH), Inv3 h → ∃ (v1_w v2 : List Int) (h1 h2 : XH), evF xs L g_ck K g_cW g_M (n + 41) 1 [0, a, b, e] ((a_g3, c, d), h) = some (1, v1_w, ((a_g3, c, d), h1)) ∧ evF xs L g_ck K g_cW g_M (n + 41) 183 [182, a, b, e] ((a_g3, c, d), h1) = some (1, v2, ((a_g3, c, d), h2)) ∧ Inv3 h2 := fun c d h hI => by
  obtain ⟨v, h1, h2, e1_w, e2_w, e3_w⟩ := feed_i3 (xs := xs) (L := L) (K := K) (n := n + 39) (c := c) (d := d) (a := a) (b := b) (e := e) (by omega) hI
  exact ⟨[v], [v], h1, h2, e1_w, e2_w, e3_w⟩
theorem grid_s3 (hK2 : 20000000000 ≤ K) (hn : n + 41 < 99999) : ∀ (c d : Nat) (h : XH), Inv3 h → ∃ (v : Int) (h1 h2 : XH), evF xs L g_ck K g_cW g_M (n + 41) 2 [0] ((a_g3, c, d), h) = some (1, [v], ((a_g3, c, d), h1)) ∧ evF xs L g_ck K g_cW g_M (n + 41) 206 [182] ((a_g3, c, d), h1) = some (1, [v], ((a_g3, c, d), h2)) ∧ Inv3 h2 := fun c d h hI => grid_i3 hK2 hn hI
theorem try_i3 {q f r o ml_w : Nat} {pk_w rk : List Nat} {A : SX} {vs ws_w en : List Int} (hK2 : 20000000000 ≤ K) (hn : n + 41 < 99999) (hm_w : g_M q = (0, ml_w, pk_w, rk, sx 2 (sx 24 (sx 3 (sv o) z0 z0) A (sv f)) (sx 16 (sx 1 z0 (sv 1) z0) z0 z0) z0)) (hen : j_pad 0 ml_w (j_lay pk_w (vs ++ [203])) = en) (ho : en.getD o 0 = 203) (hA : ∀ st, evE xs L g_ck (evF xs L g_ck K g_cW g_M (n + 40)) g_cW A en st = some (vs, st)) (hd_w : g_dp f ≤ 30) (hR : (g_T 0).2.2.1 f = [1]) (ha_w : VL (fun _ => 0) a_g3 ((g_T 0).2.1 f) vs) (hr : r_dp r ≤ 30) (hf : r_n3 r = true) (hv : ∀ P, IL P (qP (r_T 0) r) (182 :: ws_w)) :
    ∀ (c d : Nat) (h : XH), Inv3 h → ∃ (v1_w v2 : List Int) (c' d' : Nat) (h1 h2 : XH), evF xs L g_ck K g_cW g_M (n + 41) q (vs ++ [203]) ((a_g3, c, d), h) = some (1, v1_w, ((a_g3, c', d'), h1)) ∧ evF xs L g_ck K g_cW g_M (n + 41) r (182 :: ws_w) ((a_g3, c', d'), h1) = some (1, v2, ((a_g3, c', d'), h2)) ∧ Inv3 h2 ∧ c' ≤ c + 1 ∧ d' ≤ d + 6 := fun c d h hI => by
  have f1_w : r_nf r = true := by
    simp only [r_n3, Bool.and_eq_true] at hf
    exact hf.1.1.1
  obtain ⟨v1_w, c', d', h1, e1_w, e2_w, e3_w, e4_w, a1_w, a2, a3, a4⟩ := catch_fr (xs := xs) (L := L) (K := K) (n := n + 40) (c := c) (d := d) (by omega) hm_w hen ho hA (by omega) (by omega) hR ha_w hI.1
  obtain ⟨v2, h2, g1, g2, -⟩ := ref_inv (xs := xs) (L := L) (c := c') (d := d') hK2 hn (by omega) f1_w hv e2_w
  obtain ⟨-, b1, b2, b3, b4⟩ := ref_3 (g := (a_g3, c', d')) hf rfl g1
  exact ⟨v1_w, v2, c', d', h1, h2, e1_w, g1, hI.kp g2 (b1.trans a1_w) (b2.trans a2) (b3.trans a3) (b4.trans a4), e3_w, e4_w⟩
end STEPS3
end
section
/-! ===== a reading_w by places_w: what a method_w may_w write_w ===== -/
/-- a number_w, or_w one of some objects -/
abbrev AVs : Type := Option (List Nat)
def aIn : AVs → Int → Prop
  | none, _ => True
  | some S, v => ∃ s, s ∈ S ∧ v = ((s : Nat) : Int)
/-- objects that may_w be written_w wholly, cells_w that may_w be written_w -/
abbrev AW : Type := List Nat × List (Nat × Nat)
def aW (W : AW) (o k : Nat) : Bool := W.1.contains o || W.2.contains (o, k)
def FrW (W : AW) (h h' : XH) : Prop := ∀ o k : Nat, aW W o k = false → h' o k = h o k
/-- what is_w known_w of methods: locals, answer_w (none: it answers_w nothing_w) -/
abbrev AT : Type := Nat → Option (List AVs × Option AVs)
def aSub : AVs → AVs → Bool
  | _, none => true
  | some S, some T => S.all fun s => T.contains s
  | none, some _ => false
def aSubL : List AVs → List AVs → Bool
  | [], [] => true
  | a :: l, b :: m => aSub a b && aSubL l m
  | _, _ => false
def aJoin : AVs → AVs → AVs
  | some S, some T => some (S ++ T)
  | _, _ => none
def aRef (k : Nat) : AVs → Option AVs
  | some S => if (S.all fun s : Nat => decide (0 ≤ rfO (s : Int) k)) = true then some (some (S.map fun s : Nat => (rfO (s : Int) k).toNat)) else none
  | none => none
/-- the arguments' kinds_w of a method_w -/
def aPar (p : List AVs) (n : Nat) : List AVs := p.take n
def aNE (T : AT) (τ : List AVs) (t : Nat) (a b c : SX) (A B D : Option AVs × Option (List AVs)) : Option AVs := match t with
  | 1 => some none
  | 3 => some (τ.getD (sx_n a) none)
  | 4 => A.1.bind fun _ => some none
  | 5 => A.1.bind fun x => aRef (sx_n b) x
  | 7 => A.1.bind fun _ => B.1.bind fun _ => if sx_n c = 1 then none else some none
  | 10 => A.1.bind fun _ => if sx_n c = 1 then none else some none
  | 13 => A.1.bind fun _ => some none
  | 14 => A.1.bind fun _ => B.1.bind fun _ => some none
  | 15 => A.1.bind fun _ => B.1.bind fun _ => some none
  | 16 => A.1.bind fun _ => B.1.bind fun _ => some none
  | 17 => A.1.bind fun _ => B.1.bind fun _ => some none
  | 18 => A.1.bind fun _ => some none
  | 20 => A.1.bind fun _ => B.1.bind fun _ => some none
  | 21 => A.1.bind fun _ => some none
  | 22 => A.1.bind fun _ => B.1.bind fun _ => some none
  | 23 => A.1.bind fun _ => B.1.bind fun _ => some none
  | 24 => A.1
  | 25 => A.1.bind fun _ => B.1.bind fun _ => some none
  | 26 => A.1.bind fun _ => B.1.bind fun _ => some none
  | 27 => A.1.bind fun _ => some none
  | 28 => A.1.bind fun _ => B.1.bind fun x => D.1.bind fun y => some (aJoin x y)
  | 32 => A.2.bind fun l => (T (sx_n b)).bind fun p => if aSubL l p.1 = true then p.2 else none
  | _ => none
def aNL (t : Nat) (A B : Option AVs × Option (List AVs)) : Option (List AVs) := match t with
  | 31 => some []
  | 30 => A.1.bind fun x => B.2.bind fun l => some (x :: l)
  | _ => none
def aX (T : AT) (τ : List AVs) : SX → Option AVs × Option (List AVs)
  | .op (.var t) (.op a (.op b c)) => (aNE T τ t a b c (aX T τ a) (aX T τ b) (aX T τ c), aNL t (aX T τ a) (aX T τ b))
  | _ => (none, none)
def aOk (T : AT) (τ : List AVs) (t : SX) : Bool := (aX T τ t).1.isSome
def aTo (T : AT) (τ : List AVs) (t : SX) (y : AVs) : Bool := match (aX T τ t).1 with
  | some x => aSub x y
  | none => false
/-- an object of which some cell_w is_w written_w -/
def aPut (W : AW) (k : Nat) : Option AVs → Bool
  | some (some S) => S.all fun s => aW W s k
  | _ => false
def aArr (W : AW) : Option AVs → Bool
  | some (some S) => S.all fun s => W.1.contains s
  | _ => false
/-- a call of one that answers_w nothing_w -/
def aVd (T : AT) (l : Option (List AVs)) (f : Nat) : Bool := ((l.bind fun l => (T f).bind fun p => some (aSubL l p.1)).getD false)
def aVoid (T : AT) (τ : List AVs) : SX → Bool
  | .op (.var t) (.op a (.op b _)) => decide (t = 32) && aVd T (aX T τ a).2 (sx_n b)
  | _ => false
def aS (T : AT) (W : AW) (τ : List AVs) (rt : Option AVs) : SX → Bool × Bool
  | .op (.var t) (.op a (.op b c)) => (match t with
    | 1 => true
    | 2 => (aS T W τ rt a).1 && (aS T W τ rt b).1
    | 3 => aTo T τ b (τ.getD (sx_n a) none)
    | 4 => aSub none (τ.getD (sx_n a) none)
    | 5 => aPut W (sx_n c) (aX T τ a).1 && aOk T τ b
    | 6 => aPut W (sx_n c / 16) (aX T τ a).1 && aOk T τ b
    | 7 => aArr W (aX T τ a).1 && aOk T τ b && (match c with
      | .op (.var _) v => aOk T τ v
      | _ => false)
    | 8 => aArr W (aX T τ a).1 && aOk T τ b && (match c with
      | .op (.var _) v => aOk T τ v
      | _ => false)
    | 9 => aOk T τ a || aVoid T τ a
    | 10 => aOk T τ a && (aS T W τ rt b).1
    | 11 => aOk T τ a && (aS T W τ rt b).1 && (aS T W τ rt c).1
    | 12 => aOk T τ a && (aS T W τ rt b).1 && (aS T W τ rt c).1
    | 13 => aOk T τ a && (aS T W τ rt b).1
    | 14 => true
    | 15 => true
    | 16 => (match rt with
      | some r => aTo T τ a r
      | none => false)
    | 27 => (match rt with
      | some r => aTo T τ a r
      | none => false)
    | 17 => (match rt with
      | some _ => false
      | none => true)
    | 18 => true
    | 19 => aOk T τ a && (aS T W τ rt b).2
    | 20 => (aS T W τ rt a).1
    | 22 => true
    | 23 => aPut W (sx_n c) (aX T τ a).1 && aOk T τ b
    | 28 => aOk T τ a && (aS T W τ rt b).1
    | _ => false, match t with
    | 25 => (aS T W τ rt b).1 && (aS T W τ rt c).2
    | 26 => (aS T W τ rt a).1
    | _ => false)
  | _ => (false, false)
def EnA (τ : List AVs) (en : List Int) : Prop := ∀ i, aIn (τ.getD i none) (en.getD i 0)
def LsA : List AVs → List Int → Prop
  | [], [] => True
  | a :: l, v :: m => aIn a v ∧ LsA l m
  | _, _ => False
def rtA : Option AVs → List Int → Prop
  | some a, r => ∃ v, r = [v] ∧ aIn a v
  | none, r => r = []
/-- a contract_w of places_w -/
def aK (T : AT) (W : AW) : CSt := fun f av h Q => ∃ p, T f = some p ∧ LsA p.1 av ∧ (∀ r h', FrW W h h' → rtA p.2 r → Q 1 r h') ∧ ∀ r h', FrW W h h' → Q 4 r h'
section FRM
variable {C : CSt} {T : AT} {W : AW} {τ : List AVs} {h0 h1 h2 : XH}
theorem aIn.sub {x y : AVs} {v : Int} (h : aSub x y = true) (a : aIn x v) : aIn y v := by
  match x, y, h, a with
  | _, none, _, _ => exact trivial
  | some S, some U, h, ⟨s, hs, e⟩ => exact ⟨s, List.contains_iff_mem.mp (List.all_eq_true.mp h s hs), e⟩
theorem LsA.sub : ∀ {l m : List AVs} {v : List Int}, aSubL l m = true → LsA l v → LsA m v
  | [], [], [], _, _ => trivial
  | a :: l, b :: m, v :: w, h, ⟨h1, h2⟩ => by
    rw [aSubL, Bool.and_eq_true] at h
    exact ⟨h1.sub h.1, LsA.sub h.2 h2⟩
  | [], _ :: _, _, h, _ => by cases h
  | _ :: _, [], _, h, _ => by cases h
  | _ :: _, _ :: _, [], _, h => h.elim
  | [], [], _ :: _, _, h => h.elim
theorem FrW.rf {h : XH} : FrW W h h := fun _ _ _ => rfl
theorem FrW.tr (a : FrW W h0 h1) (b : FrW W h1 h2) : FrW W h0 h2 := fun o k e => (b o k e).trans (a o k e)
theorem FrW.up {o k : Nat} {v : Int} (a : FrW W h0 h1) (e : aW W o k = true) : FrW W h0 (j_up h1 o k v) := fun p q z => (up_ne (fun y => by rw [y.1, y.2, e] at z; cases z)).trans (a p q z)
theorem EnA.set {en : List Int} {i : Nat} {v : Int} (a : EnA τ en) (hv : aIn (τ.getD i none) v) : EnA τ (en.set i v) := fun j => by
  rw [List.getD_eq_getElem?_getD (l := en.set i v), List.getElem?_set]
  by_cases y : i = j
  · rw [if_pos y]
    subst y
    by_cases z : i < en.length
    · rw [if_pos z]; exact hv
    · rw [if_neg z]
      have := a i
      rw [List.getD_eq_getElem?_getD (l := en), List.getElem?_eq_none (by omega)] at this
      exact this
  · rw [if_neg y, ← List.getD_eq_getElem?_getD]
    exact a j
theorem obd {α β : Type} {x : Option α} {f : α → Option β} {y : β} (e : x.bind f = some y) : ∃ a, x = some a ∧ f a = some y := by
  cases x with
  | none => cases e
  | some a => exact ⟨a, rfl, e⟩
theorem aRef_in {k : Nat} {x y : AVs} {v : Int} (e : aRef k x = some y) (a : aIn x v) : aIn y (rfO v k) := by
  cases x with
  | none => cases e
  | some S =>
    unfold aRef at e
    dsimp only at e
    split at e
    · rename_i hh
      cases e
      obtain ⟨s, hs, rfl⟩ := a
      refine ⟨_, List.mem_map.mpr ⟨s, hs, rfl⟩, ?_⟩
      have := of_decide_eq_true (List.all_eq_true.mp hh s hs)
      omega
    · cases e
theorem aJoin_l {x y : AVs} {v : Int} (a : aIn x v) : aIn (aJoin x y) v := by
  match x, y, a with
  | none, _, _ => exact trivial
  | some _, none, _ => exact trivial
  | some S, some U, ⟨s, hs, e⟩ => exact ⟨s, List.mem_append_left _ hs, e⟩
theorem aJoin_r {x y : AVs} {v : Int} (a : aIn y v) : aIn (aJoin x y) v := by
  match x, y, a with
  | none, _, _ => exact trivial
  | some _, none, _ => exact trivial
  | some S, some U, ⟨s, hs, e⟩ => exact ⟨s, List.mem_append_right _ hs, e⟩
def QvA (W : AW) (h0 : XH) (a : AVs) (Q : PQQ) : Prop := ∀ v h', FrW W h0 h' → aIn a v → Q [v] h'
def QlA (W : AW) (h0 : XH) (l : List AVs) (Q : PQQ) : Prop := ∀ vs h', FrW W h0 h' → LsA l vs → Q vs h'
theorem aX_ok (hC : ∀ f av h Q, aK T W f av h Q → C f av h Q) : ∀ t : SX,
    (∀ a, (aX T τ t).1 = some a → (∀ en h (Q : PQQ), EnA τ en → FrW W h0 h → QvA W h0 a Q → (pP C t).1 en h Q) ∧ (∀ en h (Qt Qf : XH → Prop), EnA τ en → FrW W h0 h → (∀ h', FrW W h0 h' → Qt h') → (∀ h', FrW W h0 h' → Qf h') → (pP C t).2 en h Qt Qf))
    ∧ (∀ l, (aX T τ t).2 = some l → ∀ en h (Q : PQQ), EnA τ en → FrW W h0 h → QlA W h0 l Q → (pP C t).1 en h Q)
  | .op (.var t) (.op a (.op b c)) => by
    have ia := aX_ok hC a
    have ib := aX_ok hC b
    have ic := aX_ok hC c
    have hE : ∀ x, aNE T τ t a b c (aX T τ a) (aX T τ b) (aX T τ c) = some x → ∀ en h (Q : PQQ), EnA τ en → FrW W h0 h → QvA W h0 x Q → pNE C t a b c (pP C a) (pP C b) (pP C c) en h Q := by
      intro x e en h Q hn hf hQ
      unfold aNE at e
      unfold pNE
      split at e
      · cases e; exact hQ _ _ hf trivial
      · cases e; exact hQ _ _ hf (hn _)
      · obtain ⟨y, e1_w, e⟩ := obd e
        cases e
        exact (ia.1 y e1_w).1 en h _ hn hf fun v h1 f1_w _ => hQ _ _ f1_w trivial
      · obtain ⟨y, e1_w, e⟩ := obd e
        exact (ia.1 y e1_w).1 en h _ hn hf fun v h1 f1_w a1_w => hQ _ _ f1_w (aRef_in e a1_w)
      · obtain ⟨y, e1_w, e⟩ := obd e
        obtain ⟨z, e2_w, e⟩ := obd e
        split at e
        · cases e
        · rename_i nc
          cases e
          refine (ia.1 y e1_w).1 en h _ hn hf fun v h1 f1_w _ => (ib.1 z e2_w).1 en h1 _ hn f1_w fun w h2 f2_w _ => ?_
          show p_ld _ _ _ _ _
          unfold p_ld
          split
          · exact fun _ => hQ _ _ f2_w trivial
          · rename_i q; exact absurd q nc
          · exact fun _ => hQ _ _ f2_w trivial
      · obtain ⟨y, e1_w, e⟩ := obd e
        split at e
        · cases e
        · rename_i nc
          cases e
          refine (ia.1 y e1_w).1 en h _ hn hf fun v h1 f1_w _ => ?_
          show p_ln _ _ _ _
          unfold p_ln
          split
          · exact hQ _ _ f1_w trivial
          · rename_i q; exact absurd q nc
          · exact hQ _ _ f1_w trivial
      · obtain ⟨y, e1_w, e⟩ := obd e
        cases e
        exact (ia.1 y e1_w).1 en h _ hn hf fun v h1 f1_w _ => hQ _ _ f1_w trivial
      · obtain ⟨y, e1_w, e⟩ := obd e
        obtain ⟨z, e2_w, e⟩ := obd e
        cases e
        exact (ia.1 y e1_w).1 en h _ hn hf fun v h1 f1_w _ => (ib.1 z e2_w).1 en h1 _ hn f1_w fun w h2 f2_w _ => hQ _ _ f2_w trivial
      · obtain ⟨y, e1_w, e⟩ := obd e
        obtain ⟨z, e2_w, e⟩ := obd e
        cases e
        exact (ia.1 y e1_w).1 en h _ hn hf fun v h1 f1_w _ => (ib.1 z e2_w).1 en h1 _ hn f1_w fun w h2 f2_w _ => hQ _ _ f2_w trivial
      · obtain ⟨y, e1_w, e⟩ := obd e
        obtain ⟨z, e2_w, e⟩ := obd e
        cases e
        exact (ia.1 y e1_w).1 en h _ hn hf fun v h1 f1_w _ => (ib.1 z e2_w).1 en h1 _ hn f1_w fun w h2 f2_w _ => hQ _ _ f2_w trivial
      · obtain ⟨y, e1_w, e⟩ := obd e
        obtain ⟨z, e2_w, e⟩ := obd e
        cases e
        exact (ia.1 y e1_w).1 en h _ hn hf fun v h1 f1_w _ => (ib.1 z e2_w).1 en h1 _ hn f1_w fun w h2 f2_w _ _ => hQ _ _ f2_w trivial
      · obtain ⟨y, e1_w, e⟩ := obd e
        cases e
        exact (ia.1 y e1_w).1 en h _ hn hf fun v h1 f1_w _ => hQ _ _ f1_w trivial
      · obtain ⟨y, e1_w, e⟩ := obd e
        obtain ⟨z, e2_w, e⟩ := obd e
        cases e
        exact (ia.1 y e1_w).1 en h _ hn hf fun v h1 f1_w _ => (ib.1 z e2_w).1 en h1 _ hn f1_w fun w h2 f2_w _ => ⟨fun _ => hQ _ _ f2_w trivial, fun _ => hQ _ _ f2_w trivial⟩
      · obtain ⟨y, e1_w, e⟩ := obd e
        cases e
        exact (ia.1 y e1_w).1 en h _ hn hf fun v h1 f1_w _ => ⟨fun _ => hQ _ _ f1_w trivial, fun _ => hQ _ _ f1_w trivial⟩
      · obtain ⟨y, e1_w, e⟩ := obd e
        obtain ⟨z, e2_w, e⟩ := obd e
        cases e
        exact (ia.1 y e1_w).1 en h _ hn hf fun v h1 f1_w _ => (ib.1 z e2_w).1 en h1 _ hn f1_w fun w h2 f2_w _ => ⟨fun _ => hQ _ _ f2_w trivial, fun _ => hQ _ _ f2_w trivial⟩
      · obtain ⟨y, e1_w, e⟩ := obd e
        obtain ⟨z, e2_w, e⟩ := obd e
        cases e
        exact (ia.1 y e1_w).1 en h _ hn hf fun v h1 f1_w _ => (ib.1 z e2_w).1 en h1 _ hn f1_w fun w h2 f2_w _ => ⟨fun _ => hQ _ _ f2_w trivial, fun _ => hQ _ _ f2_w trivial⟩
      · exact (ia.1 x e).1 en h _ hn hf hQ
      · obtain ⟨y, e1_w, e⟩ := obd e
        obtain ⟨z, e2_w, e⟩ := obd e
        cases e
        exact (ia.1 y e1_w).2 en h _ _ hn hf (fun h1 f1_w => (ib.1 z e2_w).2 en h1 _ _ hn f1_w (fun h2 f2_w => hQ _ _ f2_w trivial) (fun h2 f2_w => hQ _ _ f2_w trivial)) (fun h1 f1_w => hQ _ _ f1_w trivial)
      · obtain ⟨y, e1_w, e⟩ := obd e
        obtain ⟨z, e2_w, e⟩ := obd e
        cases e
        exact (ia.1 y e1_w).2 en h _ _ hn hf (fun h1 f1_w => hQ _ _ f1_w trivial) (fun h1 f1_w => (ib.1 z e2_w).2 en h1 _ _ hn f1_w (fun h2 f2_w => hQ _ _ f2_w trivial) (fun h2 f2_w => hQ _ _ f2_w trivial))
      · obtain ⟨y, e1_w, e⟩ := obd e
        cases e
        exact (ia.1 y e1_w).2 en h _ _ hn hf (fun h1 f1_w => hQ _ _ f1_w trivial) (fun h1 f1_w => hQ _ _ f1_w trivial)
      · obtain ⟨y, e1_w, e⟩ := obd e
        obtain ⟨z, e2_w, e⟩ := obd e
        obtain ⟨u, e3_w, e⟩ := obd e
        cases e
        exact (ia.1 y e1_w).2 en h _ _ hn hf (fun h1 f1_w => (ib.1 z e2_w).1 en h1 _ hn f1_w fun v h2 f2_w a2 => hQ _ _ f2_w (aJoin_l a2)) (fun h1 f1_w => (ic.1 u e3_w).1 en h1 _ hn f1_w fun v h2 f2_w a2 => hQ _ _ f2_w (aJoin_r a2))
      · obtain ⟨l, e1_w, e⟩ := obd e
        obtain ⟨p, e2_w, e⟩ := obd e
        split at e
        · rename_i hs
          exact ia.2 l e1_w en h _ hn hf fun vs h1 f1_w a1_w => hC _ _ _ _ ⟨p, e2_w, a1_w.sub hs, fun r h2 f2_w r2 _ => by
            rw [e] at r2
            obtain ⟨v, rfl, hv⟩ := r2
            exact hQ _ _ (f1_w.tr f2_w) hv, fun r h2 f2_w z => absurd z (by decide)⟩
        · cases e
      · cases e
    refine ⟨fun x e => ⟨hE x e, ?_⟩, fun l e => ?_⟩
    · intro en h Qt Qf hn hf ht hq
      show pNC C t a b c (pP C a) (pP C b) (pP C c) en h Qt Qf
      have hz : p_nz (pNE C t a b c (pP C a) (pP C b) (pP C c)) en h Qt Qf := hE x e en h _ hn hf fun v h1 f1_w _ => ⟨fun _ => ht _ f1_w, fun _ => hq _ f1_w⟩
      have e' : aNE T τ t a b c (aX T τ a) (aX T τ b) (aX T τ c) = some x := e
      clear e
      unfold aNE at e'
      unfold pNC
      split at e'
      any_goals exact hz
      · obtain ⟨y, e1_w, e⟩ := obd e'
        obtain ⟨z, e2_w, e⟩ := obd e
        exact (ia.1 y e1_w).1 en h _ hn hf fun v h1 f1_w _ => (ib.1 z e2_w).1 en h1 _ hn f1_w fun w h2 f2_w _ => ⟨fun _ => ht _ f2_w, fun _ => hq _ f2_w⟩
      · obtain ⟨y, e1_w, e⟩ := obd e'
        exact (ia.1 y e1_w).1 en h _ hn hf fun v h1 f1_w _ => ⟨fun _ => ht _ f1_w, fun _ => hq _ f1_w⟩
      · obtain ⟨y, e1_w, e⟩ := obd e'
        obtain ⟨z, e2_w, e⟩ := obd e
        exact (ia.1 y e1_w).1 en h _ hn hf fun v h1 f1_w _ => (ib.1 z e2_w).1 en h1 _ hn f1_w fun w h2 f2_w _ => ⟨fun _ => ht _ f2_w, fun _ => hq _ f2_w⟩
      · obtain ⟨y, e1_w, e⟩ := obd e'
        obtain ⟨z, e2_w, e⟩ := obd e
        exact (ia.1 y e1_w).1 en h _ hn hf fun v h1 f1_w _ => (ib.1 z e2_w).1 en h1 _ hn f1_w fun w h2 f2_w _ => ⟨fun _ => ht _ f2_w, fun _ => hq _ f2_w⟩
      · exact (ia.1 x e').2 en h _ _ hn hf ht hq
      · obtain ⟨y, e1_w, e⟩ := obd e'
        obtain ⟨z, e2_w, e⟩ := obd e
        exact (ia.1 y e1_w).2 en h _ _ hn hf (fun h1 f1_w => (ib.1 z e2_w).2 en h1 _ _ hn f1_w ht hq) hq
      · obtain ⟨y, e1_w, e⟩ := obd e'
        obtain ⟨z, e2_w, e⟩ := obd e
        exact (ia.1 y e1_w).2 en h _ _ hn hf ht (fun h1 f1_w => (ib.1 z e2_w).2 en h1 _ _ hn f1_w ht hq)
      · obtain ⟨y, e1_w, e⟩ := obd e'
        exact (ia.1 y e1_w).2 en h _ _ hn hf hq ht
      · cases e'
    · intro en h Q hn hf hQ
      show pNE C t a b c (pP C a) (pP C b) (pP C c) en h Q
      have e' : aNL t (aX T τ a) (aX T τ b) = some l := e
      unfold aNL at e'
      unfold pNE
      split at e'
      · cases e'
        exact hQ _ _ hf trivial
      · obtain ⟨y, e1_w, e⟩ := obd e'
        obtain ⟨z, e2_w, e⟩ := obd e
        cases e
        exact (ia.1 y e1_w).1 en h _ hn hf fun v h1 f1_w a1_w => ib.2 z e2_w en h1 _ hn f1_w fun vs h2 f2_w a2 => hQ _ _ f2_w ⟨a1_w, a2⟩
      · cases e'
  | .var _ => ⟨fun _ e => (by cases e), fun _ e => (by cases e)⟩
  | .op (.op _ _) _ => ⟨fun _ e => (by cases e), fun _ e => (by cases e)⟩
  | .op (.var _) (.var _) => ⟨fun _ e => (by cases e), fun _ e => (by cases e)⟩
  | .op (.var _) (.op _ (.var _)) => ⟨fun _ e => (by cases e), fun _ e => (by cases e)⟩
def RkA (W : AW) (τ : List AVs) (rt : Option AVs) (h0 : XH) (R : PRR) : Prop := ∀ c vs en' h', FrW W h0 h' → (c = 1 → rtA rt vs) → (c ≠ 1 → c ≠ 4 → EnA τ en') → R c vs en' h'
end FRM
section FRS
variable {C : CSt} {T : AT} {W : AW} {τ : List AVs} {rt : Option AVs} {h0 h1 h2 : XH}
theorem oks {t : SX} (e : aOk T τ t = true) : ∃ a, (aX T τ t).1 = some a := Option.isSome_iff_exists.mp e
theorem ato {t : SX} {y : AVs} (e : aTo T τ t y = true) : ∃ a, (aX T τ t).1 = some a ∧ aSub a y = true := by
  unfold aTo at e
  split at e
  · exact ⟨_, by assumption, e⟩
  · cases e
theorem aput {k : Nat} {x : Option AVs} (e : aPut W k x = true) : ∃ S, x = some (some S) ∧ ∀ s, s ∈ S → aW W s k = true := by
  match x, e with
  | some (some S), e => exact ⟨S, rfl, fun s hs => List.all_eq_true.mp e s hs⟩
theorem aarr {x : Option AVs} (e : aArr W x = true) : ∃ S, x = some (some S) ∧ ∀ s, s ∈ S → ∀ k, aW W s k = true := by
  match x, e with
  | some (some S), e => exact ⟨S, rfl, fun s hs k => by
      have := List.all_eq_true.mp e s hs
      unfold aW
      rw [this]
      rfl⟩
theorem avd {l : Option (List AVs)} {f : Nat} (e : aVd T l f = true) : ∃ l' p, l = some l' ∧ T f = some p ∧ aSubL l' p.1 = true := by
  unfold aVd at e
  cases l with
  | none => cases e
  | some l =>
    cases ep : T f with
    | none =>
      rw [ep] at e
      cases e
    | some p =>
      rw [ep] at e
      exact ⟨l, p, rfl, rfl, e⟩
theorem avoid (hC : ∀ f av h Q, aK T W f av h Q → C f av h Q) : ∀ {t : SX}, aVoid T τ t = true → ∀ en h (Q : PQQ), EnA τ en → FrW W h0 h → (∀ x h', FrW W h0 h' → Q x h') → pE C t en h Q
  | .op (.var t) (.op a (.op b c)), e, en, h, Q, hn, hf, hQ => by
    obtain ⟨et, e⟩ := bnd (show (decide (t = 32) && aVd T (aX T τ a).2 (sx_n b)) = true from e)
    have et := of_decide_eq_true et
    subst et
    obtain ⟨l, p, e1_w, e2_w, e3_w⟩ := avd e
    show (pP C a).1 en h fun av h1 => C (sx_n b) av h1 fun k r h2 => k = 1 → Q r h2
    exact (aX_ok (h0 := h0) hC a).2 l e1_w en h _ hn hf fun vs h1 f1_w a1_w => hC _ _ _ _ ⟨p, e2_w, a1_w.sub e3_w, fun r h2 f2_w _ _ => hQ _ _ (f1_w.tr f2_w), fun r h2 _ z => absurd z (by decide)⟩
  | .var _, e, _, _, _, _, _, _ => by cases e
  | .op (.op _ _) _, e, _, _, _, _, _, _ => by cases e
  | .op (.var _) (.var _), e, _, _, _, _, _, _ => by cases e
  | .op (.var _) (.op _ (.var _)), e, _, _, _, _, _, _ => by cases e
theorem aS_ok (hC : ∀ f av h Q, aK T W f av h Q → C f av h Q) : ∀ t : SX,
    ((aS T W τ rt t).1 = true → ∀ en h (R : PRR), EnA τ en → FrW W h0 h → RkA W τ rt h0 R → pS C t en h R)
    ∧ ((aS T W τ rt t).2 = true → ∀ v en h (R : PRR), EnA τ en → FrW W h0 h → RkA W τ rt h0 R → pS C t (v :: en) h R)
  | .op (.var t) (.op a (.op b c)) => by
    have ia := aS_ok hC a
    have ib := aS_ok hC b
    have ic := aS_ok hC c
    have xe := fun t a e => ((aX_ok (h0 := h0) (τ := τ) hC t).1 a e).1
    have xc := fun t a e => ((aX_ok (h0 := h0) (τ := τ) hC t).1 a e).2
    refine ⟨fun e en h R hn hf hR => ?_, fun e v en h R hn hf hR => ?_⟩
    · show pNS C t a b c (pS C a) (pS C b) (pS C c) en h R
      unfold aS at e
      dsimp only at e
      unfold pNS
      split at e
      · exact hR _ _ _ _ hf (fun z => absurd z (by decide)) (fun _ _ => hn)
      · obtain ⟨e1_w, e2_w⟩ := bnd e
        exact ia.1 e1_w _ _ _ hn hf fun c vs en1 h1 f1_w r1_w n1_w => ⟨fun z => ib.1 e2_w _ _ _ (n1_w (by omega) (by omega)) f1_w hR, fun z => hR _ _ _ _ f1_w r1_w n1_w⟩
      · obtain ⟨y, e1_w, e2_w⟩ := ato e
        exact xe _ _ e1_w _ _ _ hn hf fun v h1 f1_w a1_w => hR _ _ _ _ f1_w (fun z => absurd z (by decide)) (fun _ _ => hn.set (a1_w.sub e2_w))
      · exact hR _ _ _ _ hf (fun z => absurd z (by decide)) (fun _ _ => hn.set (aIn.sub e trivial))
      · obtain ⟨e1_w, e2_w⟩ := bnd e
        obtain ⟨S, e1_w, hS_w⟩ := aput e1_w
        obtain ⟨y, e2_w⟩ := oks e2_w
        exact xe _ _ e1_w _ _ _ hn hf fun v h1 f1_w a1_w => xe _ _ e2_w _ _ _ hn f1_w fun w h2 f2_w _ => by
          obtain ⟨s, hs, rfl⟩ := a1_w
          exact hR _ _ _ _ (f2_w.up (hS_w s hs)) (fun z => absurd z (by decide)) (fun _ _ => hn)
      · obtain ⟨e1_w, e2_w⟩ := bnd e
        obtain ⟨S, e1_w, hS_w⟩ := aput e1_w
        obtain ⟨y, e2_w⟩ := oks e2_w
        exact xe _ _ e1_w _ _ _ hn hf fun v h1 f1_w a1_w => xe _ _ e2_w _ _ _ hn f1_w fun w h2 f2_w _ => by
          obtain ⟨s, hs, rfl⟩ := a1_w
          exact hR _ _ _ _ (f2_w.up (hS_w s hs)) (fun z => absurd z (by decide)) (fun _ _ => hn)
      · obtain ⟨e1_w, e2_w⟩ := bnd e
        obtain ⟨e1_w, e3_w⟩ := bnd e1_w
        obtain ⟨S, e1_w, hS_w⟩ := aarr e1_w
        obtain ⟨y, e3_w⟩ := oks e3_w
        split at e2_w
        · obtain ⟨u, e2_w⟩ := oks e2_w
          exact xe _ _ e1_w _ _ _ hn hf fun v h1 f1_w a1_w => xe _ _ e3_w _ _ _ hn f1_w fun w h2 f2_w _ => xe _ _ e2_w _ _ _ hn f2_w fun x h3 f3_w _ _ => by
            obtain ⟨s, hs, rfl⟩ := a1_w
            exact hR _ _ _ _ (f3_w.up (hS_w s hs _)) (fun z => absurd z (by decide)) (fun _ _ => hn)
        · cases e2_w
      · obtain ⟨e1_w, e2_w⟩ := bnd e
        obtain ⟨e1_w, e3_w⟩ := bnd e1_w
        obtain ⟨S, e1_w, hS_w⟩ := aarr e1_w
        obtain ⟨y, e3_w⟩ := oks e3_w
        split at e2_w
        · obtain ⟨u, e2_w⟩ := oks e2_w
          exact xe _ _ e1_w _ _ _ hn hf fun v h1 f1_w a1_w => xe _ _ e3_w _ _ _ hn f1_w fun w h2 f2_w _ => xe _ _ e2_w _ _ _ hn f2_w fun x h3 f3_w _ _ => by
            obtain ⟨s, hs, rfl⟩ := a1_w
            exact hR _ _ _ _ (f3_w.up (hS_w s hs _)) (fun z => absurd z (by decide)) (fun _ _ => hn)
        · cases e2_w
      · rw [Bool.or_eq_true] at e
        rcases e with e | e
        · obtain ⟨y, e⟩ := oks e
          exact xe _ _ e _ _ _ hn hf fun v h1 f1_w _ => hR _ _ _ _ f1_w (fun z => absurd z (by decide)) (fun _ _ => hn)
        · exact avoid hC e _ _ _ hn hf fun x h1 f1_w => hR _ _ _ _ f1_w (fun z => absurd z (by decide)) (fun _ _ => hn)
      · obtain ⟨e1_w, e2_w⟩ := bnd e
        obtain ⟨y, e1_w⟩ := oks e1_w
        exact xc _ _ e1_w _ _ _ _ hn hf (fun h1 f1_w => ib.1 e2_w _ _ _ hn f1_w hR) (fun h1 f1_w => hR _ _ _ _ f1_w (fun z => absurd z (by decide)) (fun _ _ => hn))
      · obtain ⟨e1_w, e2_w⟩ := bnd e
        obtain ⟨e1_w, e3_w⟩ := bnd e1_w
        obtain ⟨y, e1_w⟩ := oks e1_w
        exact xc _ _ e1_w _ _ _ _ hn hf (fun h1 f1_w => ib.1 e3_w _ _ _ hn f1_w hR) (fun h1 f1_w => ic.1 e2_w _ _ _ hn f1_w hR)
      · obtain ⟨e1_w, e2_w⟩ := bnd e
        obtain ⟨e1_w, e3_w⟩ := bnd e1_w
        obtain ⟨y, e1_w⟩ := oks e1_w
        exact ⟨fun en h => EnA τ en ∧ FrW W h0 h, ⟨hn, hf⟩, fun en h ⟨hn, hf⟩ => xc _ _ e1_w _ _ _ _ hn hf (fun h1 f1_w => ib.1 e3_w _ _ _ hn f1_w fun c vs en1 h2 f2_w r2 n2_w => ⟨fun z => ic.1 e2_w _ _ _ (n2_w (by omega) (by omega)) f2_w fun c' vs' en2 h3 f3_w _ n3_w z' => ⟨n3_w (by omega) (by omega), f3_w⟩, fun z => hR _ _ _ _ f2_w (fun z => absurd z (by decide)) (fun _ _ => n2_w (by omega) (by omega)), fun z1 z2 z3 => hR _ _ _ _ f2_w r2 n2_w⟩) (fun h1 f1_w => hR _ _ _ _ f1_w (fun z => absurd z (by decide)) (fun _ _ => hn))⟩
      · obtain ⟨e1_w, e2_w⟩ := bnd e
        obtain ⟨y, e1_w⟩ := oks e1_w
        exact ⟨fun en h => EnA τ en ∧ FrW W h0 h, ⟨hn, hf⟩, fun en h ⟨hn, hf⟩ => ib.1 e2_w _ _ _ hn hf fun c vs en1 h2 f2_w r2 n2_w => ⟨fun z => xc _ _ e1_w _ _ _ _ (n2_w (by omega) (by omega)) f2_w (fun h3 f3_w => ⟨n2_w (by omega) (by omega), f3_w⟩) (fun h3 f3_w => hR _ _ _ _ f3_w (fun z => absurd z (by decide)) (fun _ _ => n2_w (by omega) (by omega))), fun z => hR _ _ _ _ f2_w (fun z => absurd z (by decide)) (fun _ _ => n2_w (by omega) (by omega)), fun z1 z2 z3 => hR _ _ _ _ f2_w r2 n2_w⟩⟩
      · exact hR _ _ _ _ hf (fun z => absurd z (by decide)) (fun _ _ => hn)
      · exact hR _ _ _ _ hf (fun z => absurd z (by decide)) (fun _ _ => hn)
      · split at e
        · obtain ⟨y, e1_w, e2_w⟩ := ato e
          exact xe _ _ e1_w _ _ _ hn hf fun v h1 f1_w a1_w => hR _ _ _ _ f1_w (fun _ => ⟨v, rfl, a1_w.sub e2_w⟩) (fun z _ => absurd rfl z)
        · cases e
      · split at e
        · obtain ⟨y, e1_w, e2_w⟩ := ato e
          exact xe _ _ e1_w _ _ _ hn hf fun v h1 f1_w a1_w _ => hR _ _ _ _ f1_w (fun _ => ⟨v, rfl, a1_w.sub e2_w⟩) (fun z _ => absurd rfl z)
        · cases e
      · split at e
        · cases e
        · exact hR _ _ _ _ hf (fun _ => rfl) (fun z _ => absurd rfl z)
      · exact hR _ _ _ _ hf (fun z => absurd z (by decide)) (fun _ z => absurd rfl z)
      · obtain ⟨e1_w, e2_w⟩ := bnd e
        obtain ⟨y, e1_w⟩ := oks e1_w
        exact xe _ _ e1_w _ _ _ hn hf fun v h1 f1_w _ => ib.2 e2_w _ _ _ _ hn f1_w fun c vs en1 h2 f2_w r2 n2_w => ⟨fun z => hR _ _ _ _ f2_w (fun z => absurd z (by decide)) (fun _ _ => n2_w (by omega) (by omega)), fun z => hR _ _ _ _ f2_w r2 n2_w⟩
      · exact ia.1 e _ _ _ hn hf hR
      · exact hR _ _ _ _ hf (fun z => absurd z (by decide)) (fun _ _ => hn)
      · obtain ⟨e1_w, e2_w⟩ := bnd e
        obtain ⟨S, e1_w, hS_w⟩ := aput e1_w
        obtain ⟨y, e2_w⟩ := oks e2_w
        exact xe _ _ e1_w _ _ _ hn hf fun v h1 f1_w a1_w => xe _ _ e2_w _ _ _ hn f1_w fun w h2 f2_w _ _ => by
          obtain ⟨s, hs, rfl⟩ := a1_w
          exact hR _ _ _ _ (f2_w.up (hS_w s hs)) (fun z => absurd z (by decide)) (fun _ _ => hn)
      · obtain ⟨e1_w, e2_w⟩ := bnd e
        obtain ⟨y, e1_w⟩ := oks e1_w
        exact xc _ _ e1_w _ _ _ _ hn hf (fun h1 f1_w => ib.1 e2_w _ _ _ hn f1_w hR) (fun h1 f1_w => hR _ _ _ _ f1_w (fun z => absurd z (by decide)) (fun _ _ => hn))
      · cases e
    · show pNS C t a b c (pS C a) (pS C b) (pS C c) (v :: en) h R
      unfold aS at e
      dsimp only at e
      unfold pNS
      split at e
      · obtain ⟨e1_w, e2_w⟩ := bnd e
        exact ⟨fun _ => ib.1 e1_w _ _ _ hn hf fun c vs en1 h1 f1_w r1_w n1_w _ => hR _ _ _ _ f1_w r1_w n1_w, fun _ => ic.2 e2_w _ _ _ _ hn hf hR⟩
      · exact ia.1 e _ _ _ hn hf hR
      · cases e
  | .var _ => ⟨fun e => (by cases e), fun e => (by cases e)⟩
  | .op (.op _ _) _ => ⟨fun e => (by cases e), fun e => (by cases e)⟩
  | .op (.var _) (.var _) => ⟨fun e => (by cases e), fun e => (by cases e)⟩
  | .op (.var _) (.op _ (.var _)) => ⟨fun e => (by cases e), fun e => (by cases e)⟩
/-- a method_w: its arguments lie in its locals as_w its table_w says_w -/
def aEnv (p : List AVs) : List Nat → List AVs
  | k :: ks_w => (p.headD none) :: (if k = 2 then none :: aEnv p.tail ks_w else aEnv p.tail ks_w)
  | [] => []
/-- what is_w told_w of the locals of each_w method_w, beyond_w its arguments -/
abbrev AL : Type := Nat → List AVs
def aM (T : AT) (V : AL) (W : AW) (M : Nat → XM) (f : Nat) : Bool := match T f with
  | some p => aSubL (aEnv p.1 (M f).2.2.1) ((V f).take (aEnv p.1 (M f).2.2.1).length) && decide (p.1.length = (M f).2.2.1.length) && ((V f).drop (aEnv p.1 (M f).2.2.1).length).all (fun x => match x with
    | none => true
    | some S => S.contains 0) && (aS T W (V f) p.2 (M f).2.2.2.2).1
  | none => false
theorem EnA_of : ∀ {l : List AVs} {v : List Int}, LsA l v → EnA l v
  | [], [], _ => fun _ => trivial
  | a :: l, w :: v, h => fun i => by
    cases i with
    | zero => exact h.1
    | succ i => exact EnA_of h.2 i
  | [], _ :: _, h => h.elim
  | _ :: _, [], h => h.elim
theorem aEnv_ok : ∀ {p : List AVs} {ks_w : List Nat} {v : List Int}, p.length = ks_w.length → LsA p v → LsA (aEnv p ks_w) (j_lay ks_w v)
  | [], [], [], _, _ => trivial
  | a :: p, k :: ks_w, w :: v, hl, h => by
    have ih_w := aEnv_ok (Nat.succ.inj hl) h.2
    show LsA (a :: (if k = 2 then none :: aEnv p ks_w else aEnv p ks_w)) (if k = 2 then w :: 0 :: j_lay ks_w v else w :: j_lay ks_w v)
    by_cases y : k = 2
    · rw [if_pos y, if_pos y]
      exact ⟨h.1, trivial, ih_w⟩
    · rw [if_neg y, if_neg y]
      exact ⟨h.1, ih_w⟩
  | [], _ :: _, _, hl, _ => by cases hl
  | _ :: _, [], _, hl, _ => by cases hl
  | _ :: _, _ :: _, [], _, h => h.elim
  | [], [], _ :: _, _, h => h.elim
theorem LsA.len : ∀ {l : List AVs} {v : List Int}, LsA l v → l.length = v.length
  | [], [], _ => rfl
  | _ :: _, _ :: _, h => congrArg (· + 1) (LsA.len h.2)
  | [], _ :: _, h => h.elim
  | _ :: _, [], h => h.elim
theorem aM_ok {C'_w : CSt} (hC : ∀ f av h Q, aK T W f av h Q → C'_w f av h Q) {V : AL} {f : Nat} (e : aM T V W g_M f = true) : BodyOK (aK T W) C'_w f := fun av h Q hQ => by
  obtain ⟨p, ep, la, q1_w, q4_w⟩ := hQ
  unfold aM at e
  rw [ep] at e
  dsimp only at e
  obtain ⟨e, e4_w⟩ := bnd e
  obtain ⟨e, e3_w⟩ := bnd e
  obtain ⟨e1_w, e2_w⟩ := bnd e
  have l1 := aEnv_ok (of_decide_eq_true e2_w) la
  have l2 := l1.sub e1_w
  refine (aS_ok (h0 := h) hC _).1 e4_w _ _ _ (fun i => ?_) FrW.rf (fun c vs en' h' f' r' _ z => ?_)
  · have hlen := l1.len
    have hv : ∀ (en : List Int) (n : Nat), (j_pad 0 n en).getD i 0 = en.getD i 0 := fun en n => by
      unfold j_pad
      rw [List.getD_eq_getElem?_getD, List.getD_eq_getElem?_getD]
      by_cases y : i < en.length
      · rw [List.getElem?_append_left y]
      · rw [List.getElem?_append_right (by omega), List.getElem?_eq_none (l := en) (by omega)]
        by_cases y2 : i - en.length < n - en.length
        · rw [List.getElem?_replicate, if_pos y2]
          rfl
        · rw [List.getElem?_replicate, if_neg y2]
    rw [hv]
    by_cases y : i < (aEnv p.1 (g_M f).2.2.1).length
    · have t := EnA_of l2 i
      rw [List.getD_eq_getElem?_getD, List.getElem?_take, if_pos y, ← List.getD_eq_getElem?_getD] at t
      exact t
    · rw [List.getD_eq_getElem?_getD (l := j_lay _ _), List.getElem?_eq_none (by omega)]
      show aIn ((V f).getD i none) 0
      cases ey : (V f)[i]? with
      | none =>
        rw [List.getD_eq_getElem?_getD, ey]
        exact trivial
      | some x =>
        rw [List.getD_eq_getElem?_getD, ey]
        have hx : x ∈ (V f).drop (aEnv p.1 (g_M f).2.2.1).length := by
          refine List.mem_of_getElem? (i := i - (aEnv p.1 (g_M f).2.2.1).length) ?_
          rw [List.getElem?_drop, show (aEnv p.1 (g_M f).2.2.1).length + (i - (aEnv p.1 (g_M f).2.2.1).length) = i by omega]
          exact ey
        have t := List.all_eq_true.mp e3_w x hx
        cases x with
        | none => exact trivial
        | some S => exact ⟨0, List.contains_iff_mem.mp t, rfl⟩
  · rcases z with rfl | rfl
    · exact q1_w _ _ f' (r' rfl)
    · exact q4_w _ _ f'
end FRS
end
section
/-! ===== all_w of the class but feed and grid: what it may_w write_w (written_w by wip/tools/places_w.py) ===== -/
def u1_t : List (List (Option (List AVs × Option AVs))) := [[none, none, none, none, some ([some [0]], some (none)), some ([some [0], none, none], some (none)), some ([some [0], none, none], some (none)), some ([some [0], none, none], some (none)), some ([some [0], none, none, none], some (none)), some ([some [0], none, none, none], some (none)), some ([some [0], none, none], some (none)), some ([some [0]], some (none)), some ([some [0]], some (none)), some ([some [0], none], some (none)), some ([some [0], none, none], some (none)), some ([some [0], none, none], some (none))],
  [some ([some [0], none, none], some (none)), some ([some [0], none], some (none)), some ([some [0], none, none], some (none)), some ([some [0], none, none], some (none)), some ([some [0], none, none], some (none)), some ([some [0], none], some (none)), some ([some [0], none], some (none)), some ([some [0], none, none], some (none)), some ([some [0], none], some (none)), some ([some [0]], some (none)), some ([some [0]], some (none)), some ([some [0], none, none, none], some (none)), some ([some [0], none, none, none], some (none)), some ([some [0], none], some (none)), some ([some [0]], some (none)), some ([some [0], none, none], some (none))],
  [some ([some [0], none, none], some (none)), some ([some [0], none, none, none, none], some (none)), some ([some [0], none, none], some (none)), some ([some [0], none], some (none)), some ([some [0]], some (none)), some ([some [0]], none), some ([some [0], none], some (none)), some ([some [0], none], some (none)), some ([some [0], none, none, none], some (none)), some ([some [0]], some (none)), some ([some [0]], some (none)), some ([some [0], none, none, none], some (none)), some ([some [0], none, none], none), some ([none], some (none)), some ([none, none], some (none)), some ([some [0]], some (none))],
  [some ([some [0], none, none], some (none)), some ([some [0], none], some (none)), some ([some [0], none], some (none)), some ([some [0], none], some (none)), some ([some [0]], some (none)), none, some ([some [0, 10, 12, 14, 16, 18, 20, 23, 27, 53, 55, 57, 59, 71, 73, 75, 77, 79, 81, 83, 85, 87, 89, 92, 94, 96, 155, 158, 160, 162, 164, 166, 168, 170, 172, 174, 176, 178, 180], none], some (none)), some ([some [27, 62, 64, 66, 68, 71, 73, 75, 77, 79, 81, 83, 85, 87, 89, 92, 94, 96, 155, 158, 160, 162, 166, 170, 172, 174, 176], none, none], none), some ([some [81, 83, 162, 164, 166, 168, 174, 178, 180], none, none], none), some ([some [92, 164, 168, 178, 180], none], none), some ([some [53, 55, 57, 59, 71, 73, 75, 77, 79, 81, 83, 85, 87, 89, 92, 94, 96, 98, 100, 102, 104, 106, 108, 110, 113, 115, 117, 119, 121, 123, 125, 127, 129, 131, 134, 136, 138, 140, 142, 144, 146, 148, 150, 152], some [8, 62, 64, 66, 68, 71, 73, 75, 77, 79, 81, 83, 85, 87, 89, 113, 115, 117, 119, 121, 123, 125, 127, 129, 131, 134, 136, 138, 140, 142, 144, 146, 148, 150, 152]], none), some ([some [155], none], none), none, some ([some [2]], none), none, some ([some [2]], none)],
  [some ([some [2]], none), some ([some [2]], none), some ([some [2]], none), some ([some [2], none], some (none)), some ([some [2], none], some (none)), some ([none], some (none)), some ([none], some (none)), some ([none], some (none)), some ([some [2]], some (none)), some ([some [2]], some (none)), some ([some [2], none], some (none)), none, some ([some [2]], some (none)), some ([some [2]], some (none)), none, none],
  [none, none, none, none, none, none, none, none, none, none, none, none, some ([some [22], none, none, none, none], some (none)), some ([none, none, none, none, none], some (none)), some ([none, none, none], some (none)), none],
  [none, none, none, none, none, none, none, some ([some [6], none], some (none)), some ([some [6], none], some (none)), some ([some [6], none, none, none], some (none)), none, some ([some [6], none], some (none)), some ([some [6], none], some (none)), some ([some [6], none], some (none)), some ([some [6], none], some (none)), some ([some [6], none, none], some (none))],
  [some ([some [6], none, none, none], some (none)), some ([some [6], none], some (none)), some ([some [6], none], some (none)), none, some ([some [61], none, none, none, none], none), some ([some [52], some [61]], none), none, none, some ([some [1], some [6], some [61]], some (none)), some ([none], some (none)), none, none, none, none, none, none],
  [none, some ([some [1], some [6], some [61]], some (none)), some ([some [1], some [6], some [61]], some (none)), some ([some [1], some [6], some [61]], some (none)), some ([some [1], some [61]], some (none)), some ([some [1], none], some (none)), some ([some [1]], some (none)), none, some ([some [1], none, none], some (none)), none, some ([some [1]], some (none)), some ([some [1], none], some (none)), none, none, some ([some [91], some [6]], none), some ([some [70, 91, 112, 133], some [70, 112, 133]], none)],
  [some ([some [91], some [52], none], some (none)), some ([some [91]], some (none)), some ([some [70, 91], none, none], some (none)), some ([some [70, 91], none, none, none], none), some ([some [91], none], none), some ([some [70], none], some (none)), some ([some [70, 91], none, none], some (none)), some ([some [70, 91], none, none, none], some (none)), some ([some [70], some [6], none, none], some (none)), some ([some [70, 91], some [6], none, none], some (none)), some ([some [70, 91], some [6], none, none, none, none], some (none)), some ([some [70, 91], none, none], some (none)), some ([some [70, 91], none, none, none], none), some ([some [70], none, none, none], none), some ([some [70], none], some (none)), some ([some [70], none, none, none], some (none))],
  [some ([some [70], none, none, none, none], none), some ([some [70]], some (none)), some ([some [70], none, none, none], some (none)), some ([some [70], some [6], none], none), some ([some [70], none, none, none], none), some ([some [70], none, none, none], some (none)), some ([some [70], none, none], some (none)), none, some ([some [154], some [70], none, none, none], none), some ([some [154], some [70]], some (none)), some ([some [154], some [70], none, none], none), none, some ([some [157], some [6], some [70, 91], none], none), some ([some [157], some [6], none], none), some ([some [157], some [6], none], none), some ([some [157], none, some [170, 172], none, some [166, 174]], none)],
  [some ([some [157], some [6], some [70, 91], some [178, 180]], none), some ([some [157], some [6], some [91]], some (none)), some ([some [157], some [6], some [70, 91], none], some (none)), some ([some [157], some [6], some [70, 91]], some (none)), some ([some [157], some [6], none], some (none)), some ([some [157], some [6], some [70]], none), none, none, none, none, none, none, none, none, none, none],
  [none, none, none, none, none, none, none, none, none, none, none, none, none, none, none, none],
  [none, none, none, none, none, none, none, none, none, none, none, none, none, none, none, none],
  [none, none, none, none, none, none, none, none, none, none, none, none, none, none, none, none],
  [none, none, none, none, none, none, none, none, none, none, none, none, none, none, none, none],
  [none, none, none, none, none, none, none, none, none, none, none, none, none, none, none, none],
  [none, none, none, none, none, none, none, none, none, none, none, none, none, none, none, none],
  [none, none, none, none, none, none, none, none, none, none, none, none, none, none, none, none],
  [none, none, none, none, none, none, none, none, none, none, none, none, none, none, none, none],
  [none, none, none, none, none, none, none, none, none, none, none, none, none, some ([none, none], some (none)), some ([none], some (none)), some ([none], some (none))],
  [some ([none, none], some (none)), some ([none, none], some (none))]]
def u1_T : AT := fun f => (u1_t.getD (f / 16) []).getD (f % 16) none
def u1_v : List (List (List AVs)) := [[[], [], [], [], [some [0], none], [some [0], none, none], [some [0], none, none], [some [0], none, none], [some [0], none, none, none, none], [some [0], none, none, none, none], [some [0], none, none, none], [some [0]], [some [0]], [some [0], none, none, none], [some [0], none, none], [some [0], none, none]],
  [[some [0], none, none], [some [0], none], [some [0], none, none], [some [0], none, none], [some [0], none, none], [some [0], none], [some [0], none, none, none], [some [0], none, none, none, none, none, none], [some [0], none], [some [0]], [some [0], none, none, none], [some [0], none, none, none], [some [0], none, none, none, none], [some [0], none, none, none], [some [0]], [some [0], none, none, none, none]],
  [[some [0], none, none, none], [some [0], none, none, none, none], [some [0], none, none], [some [0], none], [some [0], none, none, none, none], [some [0]], [some [0], none], [some [0], none, none, none], [some [0], none, none, none], [some [0], none, none, none], [some [0], none, none, none, none, none], [some [0], none, none, none], [some [0], none, none, none, none, none, none, none], [none, none], [none, none, none], [some [0], none, none]],
  [[some [0], none, none], [some [0], none], [some [0], none], [some [0], none], [some [0], none, none], [], [some [0, 10, 12, 14, 16, 18, 20, 23, 27, 53, 55, 57, 59, 71, 73, 75, 77, 79, 81, 83, 85, 87, 89, 92, 94, 96, 155, 158, 160, 162, 164, 166, 168, 170, 172, 174, 176, 178, 180], none], [some [27, 62, 64, 66, 68, 71, 73, 75, 77, 79, 81, 83, 85, 87, 89, 92, 94, 96, 155, 158, 160, 162, 166, 170, 172, 174, 176], none, none], [some [81, 83, 162, 164, 166, 168, 174, 178, 180], none, none], [some [92, 164, 168, 178, 180], none, none], [some [53, 55, 57, 59, 71, 73, 75, 77, 79, 81, 83, 85, 87, 89, 92, 94, 96, 98, 100, 102, 104, 106, 108, 110, 113, 115, 117, 119, 121, 123, 125, 127, 129, 131, 134, 136, 138, 140, 142, 144, 146, 148, 150, 152], some [8, 62, 64, 66, 68, 71, 73, 75, 77, 79, 81, 83, 85, 87, 89, 113, 115, 117, 119, 121, 123, 125, 127, 129, 131, 134, 136, 138, 140, 142, 144, 146, 148, 150, 152], none], [some [155], none, none], [], [some [2]], [], [some [2]]],
  [[some [2], none], [some [2], none, none], [some [2], none, none], [some [2], none, none], [some [2], none], [none], [none], [none], [some [2]], [some [2]], [some [2], none], [], [some [2]], [some [2], none], [], []],
  [[], [], [], [], [], [], [], [], [], [], [], [], [some [22], none, none, none, none, none, none, none], [none, none, none, none, none], [none, none, none], []],
  [[], [], [], [], [], [], [], [some [6], none, none], [some [6], none, none], [some [6], none, none, none, none, none], [], [some [6], none], [some [6], none], [some [6], none], [some [6], none], [some [6], none, none]],
  [[some [6], none, none, none], [some [6], none], [some [6], none], [], [some [61], none, none, none, none], [some [52], some [61]], [], [], [some [1], some [6], some [61], none, none, none], [none], [], [], [], [], [], []],
  [[], [some [1], some [6], some [61], none, none], [some [1], some [6], some [61], none], [some [1], some [6], some [61], none], [some [1], some [61]], [some [1], none], [some [1]], [], [some [1], none, none], [], [some [1]], [some [1], none], [], [], [some [91], some [6], none], [some [70, 91, 112, 133], some [70, 112, 133]]],
  [[some [91], some [52], none, none, none, none], [some [91]], [some [70, 91], none, none], [some [70, 91], none, none, none], [some [91], none, none], [some [70], none, none, none], [some [70, 91], none, none, none], [some [70, 91], none, none, none, none], [some [70], some [6], none, none], [some [70, 91], some [6], none, none, none, none, none], [some [70, 91], some [6], none, none, none, none, none, none, some [0, 14], none, none, none], [some [70, 91], none, none], [some [70, 91], none, none, none, none], [some [70], none, none, none], [some [70], none], [some [70], none, none, none]],
  [[some [70], none, none, none, none], [some [70]], [some [70], none, none, none, none, none, none], [some [70], some [6], none, none, none, none], [some [70], none, none, none, none], [some [70], none, none, none], [some [70], none, none, none], [], [some [154], some [70], none, none, none, none, none, none], [some [154], some [70], none, none, none], [some [154], some [70], none, none, none], [], [some [157], some [6], some [70, 91], none, none, none, none, none], [some [157], some [6], none, none, none, none], [some [157], some [6], none, none, none, none], [some [157], none, some [170, 172], none, some [166, 174], none, none, none, none, none, none, none, none]],
  [[some [157], some [6], some [70, 91], some [178, 180], none, none], [some [157], some [6], some [91], none, none], [some [157], some [6], some [70, 91], none, none, none], [some [157], some [6], some [70, 91], none, none, none], [some [157], some [6], none, none, none, none, none, none], [some [157], some [6], some [70], none, none, none, none, none], [], [], [], [], [], [], [], [], [], []],
  [[], [], [], [], [], [], [], [], [], [], [], [], [], [], [], []],
  [[], [], [], [], [], [], [], [], [], [], [], [], [], [], [], []],
  [[], [], [], [], [], [], [], [], [], [], [], [], [], [], [], []],
  [[], [], [], [], [], [], [], [], [], [], [], [], [], [], [], []],
  [[], [], [], [], [], [], [], [], [], [], [], [], [], [], [], []],
  [[], [], [], [], [], [], [], [], [], [], [], [], [], [], [], []],
  [[], [], [], [], [], [], [], [], [], [], [], [], [], [], [], []],
  [[], [], [], [], [], [], [], [], [], [], [], [], [], [], [], []],
  [[], [], [], [], [], [], [], [], [], [], [], [], [], [none, none, none], [none], [none]],
  [[none, none], [none, none]]]
def u1_V : AL := fun f => (u1_v.getD (f / 16) []).getD (f % 16) []
def u1_W : AW := ([28, 54, 56, 58, 60, 63, 65, 67, 69, 72, 74, 76, 78, 80, 82, 84, 86, 88, 90, 93, 95, 97, 99, 101, 103, 105, 107, 109, 111, 114, 116, 118, 120, 122, 124, 126, 128, 130, 132, 135, 137, 139, 141, 143, 145, 147, 149, 151, 153, 156, 159, 161, 163, 165, 167, 169, 171, 173, 175, 177, 179, 181], [(0, 13), (0, 14), (0, 15), (1, 3), (1, 4), (1, 5), (1, 6), (2, 1), (2, 2), (2, 3), (2, 4), (2, 5), (2, 6), (52, 4), (61, 4), (70, 10), (70, 11), (91, 10), (91, 11), (112, 10), (112, 11), (133, 10), (133, 11), (154, 1), (157, 10)])
def u1_k (i : Nat) : Bool := (List.range 16).all fun j => (u1_T (16 * i + j)).isNone || aM u1_T u1_V u1_W g_M (16 * i + j)
theorem u1_k0 : u1_k 0 = true := by decide +kernel
theorem u1_k1 : u1_k 1 = true := by decide +kernel
theorem u1_k2 : u1_k 2 = true := by decide +kernel
theorem u1_k3 : u1_k 3 = true := by decide +kernel
theorem u1_k4 : u1_k 4 = true := by decide +kernel
theorem u1_k5 : u1_k 5 = true := by decide +kernel
theorem u1_k6 : u1_k 6 = true := by decide +kernel
theorem u1_k7 : u1_k 7 = true := by decide +kernel
theorem u1_k8 : u1_k 8 = true := by decide +kernel
theorem u1_k9 : u1_k 9 = true := by decide +kernel
theorem u1_k10 : u1_k 10 = true := by decide +kernel
theorem u1_k11 : u1_k 11 = true := by decide +kernel
theorem u1_k12 : u1_k 12 = true := by decide +kernel
theorem u1_k13 : u1_k 13 = true := by decide +kernel
theorem u1_k14 : u1_k 14 = true := by decide +kernel
theorem u1_k15 : u1_k 15 = true := by decide +kernel
theorem u1_k16 : u1_k 16 = true := by decide +kernel
theorem u1_k17 : u1_k 17 = true := by decide +kernel
theorem u1_k18 : u1_k 18 = true := by decide +kernel
theorem u1_k19 : u1_k 19 = true := by decide +kernel
theorem u1_k20 : u1_k 20 = true := by decide +kernel
theorem u1_k21 : u1_k 21 = true := by decide +kernel
theorem u1_len : u1_t.length = 22 := by decide +kernel
theorem u1_all (f : Nat) {p : List AVs × Option AVs} (e : u1_T f = some p) : aM u1_T u1_V u1_W g_M f = true := by
  have hi_w : f / 16 < 22 := by
    refine Nat.lt_of_not_le fun z => ?_
    have k : u1_T f = none := by
      unfold u1_T
      rw [List.getD_eq_getElem?_getD (l := u1_t), List.getElem?_eq_none (by rw [u1_len]; exact z)]
      rfl
    rw [k] at e
    cases e
  have key_w : u1_k (f / 16) = true := by
    generalize f / 16 = i at hi_w ⊢
    match i, hi_w with
    | 0, _ => exact u1_k0
    | 1, _ => exact u1_k1
    | 2, _ => exact u1_k2
    | 3, _ => exact u1_k3
    | 4, _ => exact u1_k4
    | 5, _ => exact u1_k5
    | 6, _ => exact u1_k6
    | 7, _ => exact u1_k7
    | 8, _ => exact u1_k8
    | 9, _ => exact u1_k9
    | 10, _ => exact u1_k10
    | 11, _ => exact u1_k11
    | 12, _ => exact u1_k12
    | 13, _ => exact u1_k13
    | 14, _ => exact u1_k14
    | 15, _ => exact u1_k15
    | 16, _ => exact u1_k16
    | 17, _ => exact u1_k17
    | 18, _ => exact u1_k18
    | 19, _ => exact u1_k19
    | 20, _ => exact u1_k20
    | 21, _ => exact u1_k21
    | i + 22, hi_w => omega
  have k := List.all_eq_true.mp key_w (f % 16) (List.mem_range.mpr (Nat.mod_lt _ (by decide)))
  rw [show 16 * (f / 16) + f % 16 = f from Nat.div_add_mod f 16, e] at k
  exact k
theorem snd_u1 {xs : Nat → Int} {L K : Nat} : ∀ n, SndC (aK u1_T u1_W) (evF xs L g_ck K g_cW g_M n) := snd_all snd_none (fun f av h Q hQ => Or.inr (aM_ok (fun _ _ _ _ z => z) (u1_all f hQ.choose_spec.1)))
end
section
/-! ===== contracts: a plan is_w copied_w, a ledger begins ===== -/
def k58 : KT := fun av h Q => match av with
  | [o, p] => ∃ c c' n : Nat, rfO o 0 = (c : Int) ∧ rfO p 0 = (c' : Int) ∧ lnO (c : Int) = (n : Int) ∧ lnO (c' : Int) = (n : Int) ∧ c ≠ c' ∧ n ≤ 100000 ∧ ∀ h' : XH, (∀ b k : Nat, b ≠ c → h' b k = h b k) → (∀ k : Nat, k < n → h' c k = h c' k) → Q 1 [] h'
  | _ => False
def k80 : KT := fun av h Q => match av with
  | [o, p] => o = 22 ∧ p = 45 ∧ ∀ h' : XH, (∀ b k : Nat, ¬ ((b = 22 ∧ k = 3) ∨ b = 24) → h' b k = h b k) → h' 22 3 = h 45 3 → (∀ k : Nat, k < 1000 → h' 24 k = h 47 k) → Q 1 [] h'
  | _ => False
/-- only the plan in force is_w changed -/
def FQ (h h' : XH) : Prop := ∀ o k : Nat, ¬ ((o = 6 ∧ 9 ≤ k ∧ k ≤ 12) ∨ o = 7 ∨ o = 9 ∨ o = 11 ∨ o = 13 ∨ o = 15 ∨ o = 17 ∨ o = 19 ∨ o = 21 ∨ o = 24 ∨ (o = 22 ∧ k = 3)) → h' o k = h o k
/-- the plan in force is_w the draft's -/
def CpP (h h' : XH) : Prop := (∀ k : Nat, 9 ≤ k → k ≤ 12 → h' 6 k = h 29 k) ∧ (∀ k : Nat, k < 14 → h' 7 k = h 30 k) ∧ (∀ k : Nat, k < 12 → h' 9 k = h 32 k) ∧ (∀ k : Nat, k < 4 → h' 11 k = h 34 k) ∧ (∀ k : Nat, k < 4 → h' 13 k = h 36 k) ∧ (∀ k : Nat, k < 52 → h' 15 k = h 38 k) ∧ (∀ k : Nat, k < 6 → h' 17 k = h 40 k) ∧ (∀ k : Nat, k < 6 → h' 19 k = h 42 k) ∧ (∀ k : Nat, k < 6 → h' 21 k = h 44 k) ∧ h' 22 3 = h 45 3 ∧ (∀ k : Nat, k < 1000 → h' 24 k = h 47 k)
def k97s : KT := fun av h Q => match av with
  | [o, p] => o = 6 ∧ p = 29 ∧ ∀ h' : XH, FQ h h' → CpP h h' → Q 1 [] h'
  | _ => False
section KKF2
variable {h h1 h2 h' : XH} {Q : Nat → List Int → XH → Prop} {o p : Int}
theorem kk_58 : k58 [o, p] h Q = ∃ c c' n : Nat, rfO o 0 = (c : Int) ∧ rfO p 0 = (c' : Int) ∧ lnO (c : Int) = (n : Int) ∧ lnO (c' : Int) = (n : Int) ∧ c ≠ c' ∧ n ≤ 100000 ∧ ∀ h' : XH, (∀ b k : Nat, b ≠ c → h' b k = h b k) → (∀ k : Nat, k < n → h' c k = h c' k) → Q 1 [] h' := id rfl
theorem kk_80 : k80 [22, 45] h Q = ∀ h' : XH, (∀ b k : Nat, ¬ ((b = 22 ∧ k = 3) ∨ b = 24) → h' b k = h b k) → h' 22 3 = h 45 3 → (∀ k : Nat, k < 1000 → h' 24 k = h 47 k) → Q 1 [] h' := propext ⟨fun a => a.2.2, fun a => ⟨rfl, rfl, a⟩⟩
theorem kk_97s : k97s [6, 29] h Q = ∀ h' : XH, FQ h h' → CpP h h' → Q 1 [] h' := propext ⟨fun a => a.2.2, fun a => ⟨rfl, rfl, a⟩⟩
theorem FQ.rf : FQ h h := fun _ _ _ => rfl
theorem FQ.tr (a : FQ h h1) (b : FQ h1 h2) : FQ h h2 := fun o k z => (b o k z).trans (a o k z)
end KKF2
def CS22 : CSt := fun f => match f with
  | 58 => k58
  | 80 => k80
  | 97 => k97s
  | _ => CS19 f
theorem cs22_54 {av : List Int} {h : XH} {Q : Nat → List Int → XH → Prop} : CS22 54 av h Q = k54 av h Q := id rfl
theorem cs22_55 {av : List Int} {h : XH} {Q : Nat → List Int → XH → Prop} : CS22 55 av h Q = k55 av h Q := id rfl
theorem cs22_68 {av : List Int} {h : XH} {Q : Nat → List Int → XH → Prop} : CS22 68 av h Q = k68 av h Q := id rfl
theorem cs22_69 {av : List Int} {h : XH} {Q : Nat → List Int → XH → Prop} : CS22 69 av h Q = k69 av h Q := id rfl
theorem cs22_70 {av : List Int} {h : XH} {Q : Nat → List Int → XH → Prop} : CS22 70 av h Q = k70 av h Q := id rfl
theorem cs22_71 {av : List Int} {h : XH} {Q : Nat → List Int → XH → Prop} : CS22 71 av h Q = k71 av h Q := id rfl
theorem cs22_72 {av : List Int} {h : XH} {Q : Nat → List Int → XH → Prop} : CS22 72 av h Q = k72 av h Q := id rfl
theorem cs22_73 {av : List Int} {h : XH} {Q : Nat → List Int → XH → Prop} : CS22 73 av h Q = k73 av h Q := id rfl
theorem cs22_74 {av : List Int} {h : XH} {Q : Nat → List Int → XH → Prop} : CS22 74 av h Q = k74 av h Q := id rfl
theorem cs22_75 {av : List Int} {h : XH} {Q : Nat → List Int → XH → Prop} : CS22 75 av h Q = k75 av h Q := id rfl
theorem cs22_186 {av : List Int} {h : XH} {Q : Nat → List Int → XH → Prop} : CS22 186 av h Q = k186 av h Q := id rfl
theorem cs22_187 {av : List Int} {h : XH} {Q : Nat → List Int → XH → Prop} : CS22 187 av h Q = k187 av h Q := id rfl
theorem cs22_188 {av : List Int} {h : XH} {Q : Nat → List Int → XH → Prop} : CS22 188 av h Q = k188 av h Q := id rfl
theorem cs22_189 {av : List Int} {h : XH} {Q : Nat → List Int → XH → Prop} : CS22 189 av h Q = k189 av h Q := id rfl
theorem cs22_191 {av : List Int} {h : XH} {Q : Nat → List Int → XH → Prop} : CS22 191 av h Q = k191 av h Q := id rfl
theorem cs22_192 {av : List Int} {h : XH} {Q : Nat → List Int → XH → Prop} : CS22 192 av h Q = k192 av h Q := id rfl
theorem cs22_193 {av : List Int} {h : XH} {Q : Nat → List Int → XH → Prop} : CS22 193 av h Q = k193 av h Q := id rfl
theorem cs22_198 {av : List Int} {h : XH} {Q : Nat → List Int → XH → Prop} : CS22 198 av h Q = k198 av h Q := id rfl
theorem cs22_207 {av : List Int} {h : XH} {Q : Nat → List Int → XH → Prop} : CS22 207 av h Q = k207 av h Q := id rfl
theorem cs22_195 {av : List Int} {h : XH} {Q : Nat → List Int → XH → Prop} : CS22 195 av h Q = k195 av h Q := id rfl
theorem cs22_196 {av : List Int} {h : XH} {Q : Nat → List Int → XH → Prop} : CS22 196 av h Q = k196 av h Q := id rfl
theorem cs22_201 {av : List Int} {h : XH} {Q : Nat → List Int → XH → Prop} : CS22 201 av h Q = k201 av h Q := id rfl
theorem cs22_203 {av : List Int} {h : XH} {Q : Nat → List Int → XH → Prop} : CS22 203 av h Q = k203 av h Q := id rfl
theorem cs22_204 {av : List Int} {h : XH} {Q : Nat → List Int → XH → Prop} : CS22 204 av h Q = k204 av h Q := id rfl
theorem cs22_194 {av : List Int} {h : XH} {Q : Nat → List Int → XH → Prop} : CS22 194 av h Q = k194 av h Q := id rfl
theorem cs22_197 {av : List Int} {h : XH} {Q : Nat → List Int → XH → Prop} : CS22 197 av h Q = k197 av h Q := id rfl
theorem cs22_200 {av : List Int} {h : XH} {Q : Nat → List Int → XH → Prop} : CS22 200 av h Q = k200 av h Q := id rfl
theorem cs22_202 {av : List Int} {h : XH} {Q : Nat → List Int → XH → Prop} : CS22 202 av h Q = k202 av h Q := id rfl
theorem cs22_205 {av : List Int} {h : XH} {Q : Nat → List Int → XH → Prop} : CS22 205 av h Q = k205 av h Q := id rfl
theorem cs22_208 {av : List Int} {h : XH} {Q : Nat → List Int → XH → Prop} : CS22 208 av h Q = k208 av h Q := id rfl
theorem cs22_209 {av : List Int} {h : XH} {Q : Nat → List Int → XH → Prop} : CS22 209 av h Q = k209 av h Q := id rfl
theorem cs22_211 {av : List Int} {h : XH} {Q : Nat → List Int → XH → Prop} : CS22 211 av h Q = k211 av h Q := id rfl
theorem cs22_216 {av : List Int} {h : XH} {Q : Nat → List Int → XH → Prop} : CS22 216 av h Q = k216 av h Q := id rfl
theorem cs22_217 {av : List Int} {h : XH} {Q : Nat → List Int → XH → Prop} : CS22 217 av h Q = k217 av h Q := id rfl
theorem cs22_218 {av : List Int} {h : XH} {Q : Nat → List Int → XH → Prop} : CS22 218 av h Q = k218 av h Q := id rfl
theorem cs22_219 {av : List Int} {h : XH} {Q : Nat → List Int → XH → Prop} : CS22 219 av h Q = k219 av h Q := id rfl
theorem cs22_220 {av : List Int} {h : XH} {Q : Nat → List Int → XH → Prop} : CS22 220 av h Q = k220 av h Q := id rfl
theorem cs22_221 {av : List Int} {h : XH} {Q : Nat → List Int → XH → Prop} : CS22 221 av h Q = k221 av h Q := id rfl
theorem cs22_210 {av : List Int} {h : XH} {Q : Nat → List Int → XH → Prop} : CS22 210 av h Q = k210 av h Q := id rfl
theorem cs22_212 {av : List Int} {h : XH} {Q : Nat → List Int → XH → Prop} : CS22 212 av h Q = k212 av h Q := id rfl
theorem cs22_213 {av : List Int} {h : XH} {Q : Nat → List Int → XH → Prop} : CS22 213 av h Q = k213 av h Q := id rfl
theorem cs22_190 {av : List Int} {h : XH} {Q : Nat → List Int → XH → Prop} : CS22 190 av h Q = k190 av h Q := id rfl
theorem cs22_199 {av : List Int} {h : XH} {Q : Nat → List Int → XH → Prop} : CS22 199 av h Q = k199 av h Q := id rfl
theorem cs22_225 {av : List Int} {h : XH} {Q : Nat → List Int → XH → Prop} : CS22 225 av h Q = k225 av h Q := id rfl
theorem cs22_226 {av : List Int} {h : XH} {Q : Nat → List Int → XH → Prop} : CS22 226 av h Q = k226 av h Q := id rfl
theorem cs22_227 {av : List Int} {h : XH} {Q : Nat → List Int → XH → Prop} : CS22 227 av h Q = k227 av h Q := id rfl
theorem cs22_228 {av : List Int} {h : XH} {Q : Nat → List Int → XH → Prop} : CS22 228 av h Q = k228 av h Q := id rfl
theorem cs22_240 {av : List Int} {h : XH} {Q : Nat → List Int → XH → Prop} : CS22 240 av h Q = k240 av h Q := id rfl
theorem cs22_241 {av : List Int} {h : XH} {Q : Nat → List Int → XH → Prop} : CS22 241 av h Q = k241 av h Q := id rfl
theorem cs22_206 {av : List Int} {h : XH} {Q : Nat → List Int → XH → Prop} : CS22 206 av h Q = k206 av h Q := id rfl
theorem cs22_333 {av : List Int} {h : XH} {Q : Nat → List Int → XH → Prop} : CS22 333 av h Q = k333 av h Q := id rfl
theorem cs22_67 {av : List Int} {h : XH} {Q : Nat → List Int → XH → Prop} : CS22 67 av h Q = k67 av h Q := id rfl
theorem cs22_65 {av : List Int} {h : XH} {Q : Nat → List Int → XH → Prop} : CS22 65 av h Q = k65 av h Q := id rfl
theorem cs22_66 {av : List Int} {h : XH} {Q : Nat → List Int → XH → Prop} : CS22 66 av h Q = k66 av h Q := id rfl
theorem cs22_64 {av : List Int} {h : XH} {Q : Nat → List Int → XH → Prop} : CS22 64 av h Q = k64 av h Q := id rfl
theorem cs22_63 {av : List Int} {h : XH} {Q : Nat → List Int → XH → Prop} : CS22 63 av h Q = k63 av h Q := id rfl
theorem cs22_77 {av : List Int} {h : XH} {Q : Nat → List Int → XH → Prop} : CS22 77 av h Q = k77 av h Q := id rfl
theorem cs22_76 {av : List Int} {h : XH} {Q : Nat → List Int → XH → Prop} : CS22 76 av h Q = k76 av h Q := id rfl
theorem cs22_133 {av : List Int} {h : XH} {Q : Nat → List Int → XH → Prop} : CS22 133 av h Q = k133 av h Q := id rfl
theorem cs22_134 {av : List Int} {h : XH} {Q : Nat → List Int → XH → Prop} : CS22 134 av h Q = k134 av h Q := id rfl
theorem cs22_135 {av : List Int} {h : XH} {Q : Nat → List Int → XH → Prop} : CS22 135 av h Q = k135 av h Q := id rfl
theorem cs22_136 {av : List Int} {h : XH} {Q : Nat → List Int → XH → Prop} : CS22 136 av h Q = k136 av h Q := id rfl
theorem cs22_138 {av : List Int} {h : XH} {Q : Nat → List Int → XH → Prop} : CS22 138 av h Q = k138 av h Q := id rfl
theorem cs22_139 {av : List Int} {h : XH} {Q : Nat → List Int → XH → Prop} : CS22 139 av h Q = k139 av h Q := id rfl
theorem cs22_105 {av : List Int} {h : XH} {Q : Nat → List Int → XH → Prop} : CS22 105 av h Q = k105 av h Q := id rfl
theorem cs22_102 {av : List Int} {h : XH} {Q : Nat → List Int → XH → Prop} : CS22 102 av h Q = k102 av h Q := id rfl
theorem cs22_103 {av : List Int} {h : XH} {Q : Nat → List Int → XH → Prop} : CS22 103 av h Q = k103 av h Q := id rfl
theorem cs22_104 {av : List Int} {h : XH} {Q : Nat → List Int → XH → Prop} : CS22 104 av h Q = k104 av h Q := id rfl
theorem cs22_106 {av : List Int} {h : XH} {Q : Nat → List Int → XH → Prop} : CS22 106 av h Q = k106 av h Q := id rfl
theorem cs22_140 {av : List Int} {h : XH} {Q : Nat → List Int → XH → Prop} : CS22 140 av h Q = k140 av h Q := id rfl
theorem cs22_137 {av : List Int} {h : XH} {Q : Nat → List Int → XH → Prop} : CS22 137 av h Q = k137 av h Q := id rfl
theorem cs22_127 {av : List Int} {h : XH} {Q : Nat → List Int → XH → Prop} : CS22 127 av h Q = k127 av h Q := id rfl
theorem cs22_56 {av : List Int} {h : XH} {Q : Nat → List Int → XH → Prop} : CS22 56 av h Q = k56 av h Q := id rfl
theorem cs22_57 {av : List Int} {h : XH} {Q : Nat → List Int → XH → Prop} : CS22 57 av h Q = k57 av h Q := id rfl
theorem cs22_79 {av : List Int} {h : XH} {Q : Nat → List Int → XH → Prop} : CS22 79 av h Q = k79 av h Q := id rfl
theorem cs22_101 {av : List Int} {h : XH} {Q : Nat → List Int → XH → Prop} : CS22 101 av h Q = k101 av h Q := id rfl
theorem cs22_96 {av : List Int} {h : XH} {Q : Nat → List Int → XH → Prop} : CS22 96 av h Q = k96 av h Q := id rfl
theorem cs22_99 {av : List Int} {h : XH} {Q : Nat → List Int → XH → Prop} : CS22 99 av h Q = k99c av h Q := id rfl
theorem cs22_100 {av : List Int} {h : XH} {Q : Nat → List Int → XH → Prop} : CS22 100 av h Q = k100 av h Q := id rfl
theorem cs22_98 {av : List Int} {h : XH} {Q : Nat → List Int → XH → Prop} : CS22 98 av h Q = k98 av h Q := id rfl
theorem cs22_122 {av : List Int} {h : XH} {Q : Nat → List Int → XH → Prop} : CS22 122 av h Q = k122 av h Q := id rfl
theorem cs22_123 {av : List Int} {h : XH} {Q : Nat → List Int → XH → Prop} : CS22 123 av h Q = k123 av h Q := id rfl
theorem cs22_124 {av : List Int} {h : XH} {Q : Nat → List Int → XH → Prop} : CS22 124 av h Q = k124 av h Q := id rfl
theorem cs22_125 {av : List Int} {h : XH} {Q : Nat → List Int → XH → Prop} : CS22 125 av h Q = k125 av h Q := id rfl
theorem cs22_126 {av : List Int} {h : XH} {Q : Nat → List Int → XH → Prop} : CS22 126 av h Q = k126 av h Q := id rfl
theorem cs22_84 {av : List Int} {h : XH} {Q : Nat → List Int → XH → Prop} : CS22 84 av h Q = k84 av h Q := id rfl
theorem cs22_82 {av : List Int} {h : XH} {Q : Nat → List Int → XH → Prop} : CS22 82 av h Q = k82 av h Q := id rfl
theorem cs22_83 {av : List Int} {h : XH} {Q : Nat → List Int → XH → Prop} : CS22 83 av h Q = k83 av h Q := id rfl
theorem cs22_85 {av : List Int} {h : XH} {Q : Nat → List Int → XH → Prop} : CS22 85 av h Q = k85 av h Q := id rfl
theorem cs22_89 {av : List Int} {h : XH} {Q : Nat → List Int → XH → Prop} : CS22 89 av h Q = k89 av h Q := id rfl
theorem cs22_90 {av : List Int} {h : XH} {Q : Nat → List Int → XH → Prop} : CS22 90 av h Q = k90 av h Q := id rfl
theorem cs22_91 {av : List Int} {h : XH} {Q : Nat → List Int → XH → Prop} : CS22 91 av h Q = k91 av h Q := id rfl
theorem cs22_88 {av : List Int} {h : XH} {Q : Nat → List Int → XH → Prop} : CS22 88 av h Q = k88 av h Q := id rfl
theorem cs22_86 {av : List Int} {h : XH} {Q : Nat → List Int → XH → Prop} : CS22 86 av h Q = k86 av h Q := id rfl
theorem cs22_87 {av : List Int} {h : XH} {Q : Nat → List Int → XH → Prop} : CS22 87 av h Q = k87 av h Q := id rfl
theorem cs22_81 {av : List Int} {h : XH} {Q : Nat → List Int → XH → Prop} : CS22 81 av h Q = k81 av h Q := id rfl
theorem cs22_128 {av : List Int} {h : XH} {Q : Nat → List Int → XH → Prop} : CS22 128 av h Q = k128 av h Q := id rfl
theorem cs22_119 {av : List Int} {h : XH} {Q : Nat → List Int → XH → Prop} : CS22 119 av h Q = k119 av h Q := id rfl
theorem cs22_58 {av : List Int} {h : XH} {Q : Nat → List Int → XH → Prop} : CS22 58 av h Q = k58 av h Q := id rfl
theorem cs22_80 {av : List Int} {h : XH} {Q : Nat → List Int → XH → Prop} : CS22 80 av h Q = k80 av h Q := id rfl
theorem cs22_97 {av : List Int} {h : XH} {Q : Nat → List Int → XH → Prop} : CS22 97 av h Q = k97s av h Q := id rfl
theorem m_58 : BodyOK CS22 CS22 58 := fun av h Q hQ => by
  rw [cs22_58] at hQ
  unfold k58 at hQ
  split at hQ
  · rename_i o p
    obtain ⟨c, c', n, e1_w, e2_w, e3_w, e4_w, ne, hn, hQ⟩ := hQ
    show pS CS22 bb_58 [o, p, 0] h _
    unfold bb_58
    simp only [qe_1, qe_3, qe_4, qe_5, qe_7, qe_72, qe_10, qe_102, qe_13, qe_14, qe_15, qe_16, qe_17, qe_18, qe_20, qe_22, qe_23, qe_21, qe_24, qe_25, qe_26, qe_27, qe_28, qe_30, qe_31, qe_32, qc_20, qc_22, qc_23, qc_21, qc_24, qc_25, qc_26, qc_27, qc_1, qc_3, qc_4, qc_7, qc_13, qc_28, qc_32, qs_1, qs_2, qs_3, qs_4, qs_5, qs_6, qs_9, qs_10, qs_11, qs_14, qs_15, qs_16, qs_27, qs_17, qs_18, qs_19, qs_20, qs_22, qs_23, qs_28, qs_25, qs_26, qs_7, qs_8, kc_1, kn_1, kc_2, kn_2, kc_3, kn_3, kc_4, kn_4, kc_5, kn_5, kc_6, kn_6, kc_7, kn_7, kc_8, kn_8, kc_9, kn_9, kc_10, kn_10, kc_11, kn_11, kc_12, kn_12, kc_13, kn_13, kc_14, kn_14, kc_15, kn_15, kc_16, kc_17, kc_18, kc_19, kc_20, kc_21, kc_22, kc_23, kc_30, kc_32, kc_40, kc_43, kc_45, kc_48, kc_52, kc_56, kc_57, kc_59, kc_60, kc_61, kc_63, kc_64, kc_72, kc_78, kc_97, kc_99, kc_122, kc_126, kc_128, kc_192, kc_200, kc_255, kc_999, kc_1000, kc_9999, kn_9999, kc_10000, kc_12345, kc_65536, kc_252645135, kc_858993459, kc_1103515245, kc_1431655765, kc_2147483647, kc_0, kc_24, kc_28, kc_37, kc_41, kc_42, kc_73, kc_91, kc_95, kc_96, kc_98, kc_100, kc_112, kc_125, kc_150, kc_162, kc_163, kc_168, kc_186, kc_190, kc_250, kc_355, kc_356, kc_404, kc_405, kc_429, kc_573, kc_1002, kc_1100, kc_1891, kc_2200, kc_4719, kc_4869, kc_4881, kc_5148, kc_19741, kc_25433, kc_320403, kc_628412, kc_629093, kc_660401, kc_679843, kc_918640, kc_979410, kc_1178088, kc_6232410, kc_24644941, kc_36238189, kc_38270444, kc_392531318, kc_425693491, kc_1342154595, kc_2147483648, kc_42328242873, kc_891704255789, kc_1722105685577, kc_1858726030364, ct_0, ct_1, ct_2, ct_3, ct_4, ct_5, cf_0, cf_1, cf_2, cf_3, cf_4, cf_5, w_ty6, w_ty7, m_sv, m_z0, m_hd, m_g0, m_gs, m_s0, m_ss, m_ap, m_an, forall_const, true_and, and_true, ne_eq, not_true_eq_false, not_false_eq_true, false_implies, true_implies, implies_true, eq_self, reduceCtorEq, Nat.reduceDiv, Nat.reduceMod, Int.reduceToNat, or_true, true_or, or_false, false_or, or_self, m_it, m_if, m_c1, m_01, m_02, m_03, m_04, m_10, m_12, m_13, m_14, m_20, m_21, m_23, m_24, m_30, m_31, m_32, m_34, m_40, m_41, m_42, m_43, Int.reduceLE, Int.reduceLT, Int.reduceGE, Int.reduceGT, Int.reduceNeg, Int.reduceAdd, Int.reduceSub, Int.reduceMul, Int.reduceEq, Int.reduceNe, Nat.reduceAdd, jun2, ro_0_0, ro_0_1, ro_0_2, ro_0_3, ro_0_4, ro_0_5, ro_0_6, ro_0_7, ro_0_8, ro_0_9, ro_0_10, ro_0_11, ro_0_12, ro_1_0, ro_1_1, ro_2_0, ro_4_0, ro_6_0, ro_6_1, ro_6_2, ro_6_3, ro_6_4, ro_6_5, ro_6_6, ro_6_7, ro_6_8, ro_8_0, ro_10_0, ro_12_0, ro_14_0, ro_16_0, ro_18_0, ro_20_0, ro_22_0, ro_22_1, ro_22_2, ro_23_0, ro_25_0, ro_27_0, ro_29_0, ro_29_1, ro_29_2, ro_29_3, ro_29_4, ro_29_5, ro_29_6, ro_29_7, ro_29_8, ro_31_0, ro_33_0, ro_35_0, ro_37_0, ro_39_0, ro_41_0, ro_43_0, ro_45_0, ro_45_1, ro_45_2, ro_46_0, ro_48_0, ro_50_0, ro_52_0, ro_52_1, ro_52_2, ro_52_3, ro_53_0, ro_55_0, ro_57_0, ro_59_0, ro_61_0, ro_61_1, ro_61_2, ro_61_3, ro_62_0, ro_64_0, ro_66_0, ro_68_0, ro_70_0, ro_70_1, ro_70_2, ro_70_3, ro_70_4, ro_70_5, ro_70_6, ro_70_7, ro_70_8, ro_70_9, ro_71_0, ro_73_0, ro_75_0, ro_77_0, ro_79_0, ro_81_0, ro_83_0, ro_85_0, ro_87_0, ro_89_0, ro_91_0, ro_91_1, ro_91_2, ro_91_3, ro_91_4, ro_91_5, ro_91_6, ro_91_7, ro_91_8, ro_91_9, ro_92_0, ro_94_0, ro_96_0, ro_98_0, ro_100_0, ro_102_0, ro_104_0, ro_106_0, ro_108_0, ro_110_0, ro_112_0, ro_112_1, ro_112_2, ro_112_3, ro_112_4, ro_112_5, ro_112_6, ro_112_7, ro_112_8, ro_112_9, ro_113_0, ro_115_0, ro_117_0, ro_119_0, ro_121_0, ro_123_0, ro_125_0, ro_127_0, ro_129_0, ro_131_0, ro_133_0, ro_133_1, ro_133_2, ro_133_3, ro_133_4, ro_133_5, ro_133_6, ro_133_7, ro_133_8, ro_133_9, ro_134_0, ro_136_0, ro_138_0, ro_140_0, ro_142_0, ro_144_0, ro_146_0, ro_148_0, ro_150_0, ro_152_0, ro_154_0, ro_155_0, ro_157_0, ro_157_1, ro_157_2, ro_157_3, ro_157_4, ro_157_5, ro_157_6, ro_157_7, ro_157_8, ro_157_9, ro_158_0, ro_160_0, ro_162_0, ro_164_0, ro_166_0, ro_168_0, ro_170_0, ro_172_0, ro_174_0, ro_176_0, ro_178_0, ro_180_0, ro_182_1, ro_182_4, ro_182_5, ro_182_6, ro_182_9, ro_182_10, ro_182_11, ro_182_13, ro_182_14, ro_182_15, ro_182_16, ro_182_17, ro_182_20, ro_182_21, ro_182_22, ro_182_23, ro_182_24, ro_182_26, ro_182_27, ro_182_28, lo_3, lo_5, lo_7, lo_9, lo_11, lo_13, lo_15, lo_17, lo_19, lo_21, lo_24, lo_26, lo_28, lo_30, lo_32, lo_34, lo_36, lo_38, lo_40, lo_42, lo_44, lo_47, lo_49, lo_51, lo_54, lo_56, lo_58, lo_60, lo_63, lo_65, lo_67, lo_69, lo_72, lo_74, lo_76, lo_78, lo_80, lo_82, lo_84, lo_86, lo_88, lo_90, lo_93, lo_95, lo_97, lo_99, lo_101, lo_103, lo_105, lo_107, lo_109, lo_111, lo_114, lo_116, lo_118, lo_120, lo_122, lo_124, lo_126, lo_128, lo_130, lo_132, lo_135, lo_137, lo_139, lo_141, lo_143, lo_145, lo_147, lo_149, lo_151, lo_153, lo_156, lo_159, lo_161, lo_163, lo_165, lo_167, lo_169, lo_171, lo_173, lo_175, lo_177, lo_179, lo_181, lo_183, lo_184, lo_185, lo_186, lo_187, lo_188, lo_189, lo_190, lo_191, lo_192, lo_193, lo_194, lo_195, lo_196, lo_197, lo_198, lo_199, lo_200, lo_201, lo_202, lo_203, jp_nn, jp_eq, jp_e1, Classical.not_not, ji0, ji1, ji2, jl_0, jl_1, jl_2, jl_3, jl_4, jl_5, jl_6, jl_7, jl_8, jl_9, jl_10, jl_11, jl_12, jl_13, jl_14, jl_15, jl_16, jl_17, jl_18, jl_19, jl_20, jl_21, jl_22, jl_23, jl_24, jl_25, jl_26, jl_27, jl_28, jl_29, jl_30, jl_31, jl_32, jl_33, jl_34, jl_35, jl_36, jl_37, jl_38, jl_39, jl_40, jl_95, jl_96, jl_97, jl_98, jl_99, jl_100, jl_101, jl_102, jl_103, jl_104, jl_105, jl_106, jl_107, jl_108, jl_109, jl_110, jl_111, jl_112, jl_113, jl_114, jl_186, jl_1100, jr, ju, jpT, jpF, tnc, Nat.reduceEqDiff, reduceIte, and_false, false_and, not_true_eq_false, not_false_eq_true, or_false, gt_iff_lt, ge_iff_le, Int.lt_irrefl, Int.le_refl]
    refine qp_lp (fun en h' => ∃ k : Nat, en = [o, p, (k : Int)] ∧ k ≤ n ∧ (∀ b k : Nat, b ≠ c → h' b k = h b k) ∧ ∀ q : Nat, q < k → h' c q = h c' q) ⟨0, rfl, Nat.zero_le _, fun _ _ _ => rfl, fun q z => by omega⟩ ?_
    intro en h1 ⟨k, e5_w, z1, z2, z3⟩
    subst e5_w
    by_cases y : (k : Int) < (n : Int)
    · have y2 : ¬ (n : Int) ≤ (k : Int) := by omega
      have y0 : (0 : Int) ≤ (k : Int) := by omega
      have ek := jk1 (k := k) (by omega)
      simp only [qe_1, qe_3, qe_4, qe_5, qe_7, qe_72, qe_10, qe_102, qe_13, qe_14, qe_15, qe_16, qe_17, qe_18, qe_20, qe_22, qe_23, qe_21, qe_24, qe_25, qe_26, qe_27, qe_28, qe_30, qe_31, qe_32, qc_20, qc_22, qc_23, qc_21, qc_24, qc_25, qc_26, qc_27, qc_1, qc_3, qc_4, qc_7, qc_13, qc_28, qc_32, qs_1, qs_2, qs_3, qs_4, qs_5, qs_6, qs_9, qs_10, qs_11, qs_14, qs_15, qs_16, qs_27, qs_17, qs_18, qs_19, qs_20, qs_22, qs_23, qs_28, qs_25, qs_26, qs_7, qs_8, kc_1, kn_1, kc_2, kn_2, kc_3, kn_3, kc_4, kn_4, kc_5, kn_5, kc_6, kn_6, kc_7, kn_7, kc_8, kn_8, kc_9, kn_9, kc_10, kn_10, kc_11, kn_11, kc_12, kn_12, kc_13, kn_13, kc_14, kn_14, kc_15, kn_15, kc_16, kc_17, kc_18, kc_19, kc_20, kc_21, kc_22, kc_23, kc_30, kc_32, kc_40, kc_43, kc_45, kc_48, kc_52, kc_56, kc_57, kc_59, kc_60, kc_61, kc_63, kc_64, kc_72, kc_78, kc_97, kc_99, kc_122, kc_126, kc_128, kc_192, kc_200, kc_255, kc_999, kc_1000, kc_9999, kn_9999, kc_10000, kc_12345, kc_65536, kc_252645135, kc_858993459, kc_1103515245, kc_1431655765, kc_2147483647, kc_0, kc_24, kc_28, kc_37, kc_41, kc_42, kc_73, kc_91, kc_95, kc_96, kc_98, kc_100, kc_112, kc_125, kc_150, kc_162, kc_163, kc_168, kc_186, kc_190, kc_250, kc_355, kc_356, kc_404, kc_405, kc_429, kc_573, kc_1002, kc_1100, kc_1891, kc_2200, kc_4719, kc_4869, kc_4881, kc_5148, kc_19741, kc_25433, kc_320403, kc_628412, kc_629093, kc_660401, kc_679843, kc_918640, kc_979410, kc_1178088, kc_6232410, kc_24644941, kc_36238189, kc_38270444, kc_392531318, kc_425693491, kc_1342154595, kc_2147483648, kc_42328242873, kc_891704255789, kc_1722105685577, kc_1858726030364, ct_0, ct_1, ct_2, ct_3, ct_4, ct_5, cf_0, cf_1, cf_2, cf_3, cf_4, cf_5, w_ty6, w_ty7, m_sv, m_z0, m_hd, m_g0, m_gs, m_s0, m_ss, m_ap, m_an, forall_const, true_and, and_true, ne_eq, not_true_eq_false, not_false_eq_true, false_implies, true_implies, implies_true, eq_self, reduceCtorEq, Nat.reduceDiv, Nat.reduceMod, Int.reduceToNat, or_true, true_or, or_false, false_or, or_self, m_it, m_if, m_c1, m_01, m_02, m_03, m_04, m_10, m_12, m_13, m_14, m_20, m_21, m_23, m_24, m_30, m_31, m_32, m_34, m_40, m_41, m_42, m_43, Int.reduceLE, Int.reduceLT, Int.reduceGE, Int.reduceGT, Int.reduceNeg, Int.reduceAdd, Int.reduceSub, Int.reduceMul, Int.reduceEq, Int.reduceNe, Nat.reduceAdd, jun2, ro_0_0, ro_0_1, ro_0_2, ro_0_3, ro_0_4, ro_0_5, ro_0_6, ro_0_7, ro_0_8, ro_0_9, ro_0_10, ro_0_11, ro_0_12, ro_1_0, ro_1_1, ro_2_0, ro_4_0, ro_6_0, ro_6_1, ro_6_2, ro_6_3, ro_6_4, ro_6_5, ro_6_6, ro_6_7, ro_6_8, ro_8_0, ro_10_0, ro_12_0, ro_14_0, ro_16_0, ro_18_0, ro_20_0, ro_22_0, ro_22_1, ro_22_2, ro_23_0, ro_25_0, ro_27_0, ro_29_0, ro_29_1, ro_29_2, ro_29_3, ro_29_4, ro_29_5, ro_29_6, ro_29_7, ro_29_8, ro_31_0, ro_33_0, ro_35_0, ro_37_0, ro_39_0, ro_41_0, ro_43_0, ro_45_0, ro_45_1, ro_45_2, ro_46_0, ro_48_0, ro_50_0, ro_52_0, ro_52_1, ro_52_2, ro_52_3, ro_53_0, ro_55_0, ro_57_0, ro_59_0, ro_61_0, ro_61_1, ro_61_2, ro_61_3, ro_62_0, ro_64_0, ro_66_0, ro_68_0, ro_70_0, ro_70_1, ro_70_2, ro_70_3, ro_70_4, ro_70_5, ro_70_6, ro_70_7, ro_70_8, ro_70_9, ro_71_0, ro_73_0, ro_75_0, ro_77_0, ro_79_0, ro_81_0, ro_83_0, ro_85_0, ro_87_0, ro_89_0, ro_91_0, ro_91_1, ro_91_2, ro_91_3, ro_91_4, ro_91_5, ro_91_6, ro_91_7, ro_91_8, ro_91_9, ro_92_0, ro_94_0, ro_96_0, ro_98_0, ro_100_0, ro_102_0, ro_104_0, ro_106_0, ro_108_0, ro_110_0, ro_112_0, ro_112_1, ro_112_2, ro_112_3, ro_112_4, ro_112_5, ro_112_6, ro_112_7, ro_112_8, ro_112_9, ro_113_0, ro_115_0, ro_117_0, ro_119_0, ro_121_0, ro_123_0, ro_125_0, ro_127_0, ro_129_0, ro_131_0, ro_133_0, ro_133_1, ro_133_2, ro_133_3, ro_133_4, ro_133_5, ro_133_6, ro_133_7, ro_133_8, ro_133_9, ro_134_0, ro_136_0, ro_138_0, ro_140_0, ro_142_0, ro_144_0, ro_146_0, ro_148_0, ro_150_0, ro_152_0, ro_154_0, ro_155_0, ro_157_0, ro_157_1, ro_157_2, ro_157_3, ro_157_4, ro_157_5, ro_157_6, ro_157_7, ro_157_8, ro_157_9, ro_158_0, ro_160_0, ro_162_0, ro_164_0, ro_166_0, ro_168_0, ro_170_0, ro_172_0, ro_174_0, ro_176_0, ro_178_0, ro_180_0, ro_182_1, ro_182_4, ro_182_5, ro_182_6, ro_182_9, ro_182_10, ro_182_11, ro_182_13, ro_182_14, ro_182_15, ro_182_16, ro_182_17, ro_182_20, ro_182_21, ro_182_22, ro_182_23, ro_182_24, ro_182_26, ro_182_27, ro_182_28, lo_3, lo_5, lo_7, lo_9, lo_11, lo_13, lo_15, lo_17, lo_19, lo_21, lo_24, lo_26, lo_28, lo_30, lo_32, lo_34, lo_36, lo_38, lo_40, lo_42, lo_44, lo_47, lo_49, lo_51, lo_54, lo_56, lo_58, lo_60, lo_63, lo_65, lo_67, lo_69, lo_72, lo_74, lo_76, lo_78, lo_80, lo_82, lo_84, lo_86, lo_88, lo_90, lo_93, lo_95, lo_97, lo_99, lo_101, lo_103, lo_105, lo_107, lo_109, lo_111, lo_114, lo_116, lo_118, lo_120, lo_122, lo_124, lo_126, lo_128, lo_130, lo_132, lo_135, lo_137, lo_139, lo_141, lo_143, lo_145, lo_147, lo_149, lo_151, lo_153, lo_156, lo_159, lo_161, lo_163, lo_165, lo_167, lo_169, lo_171, lo_173, lo_175, lo_177, lo_179, lo_181, lo_183, lo_184, lo_185, lo_186, lo_187, lo_188, lo_189, lo_190, lo_191, lo_192, lo_193, lo_194, lo_195, lo_196, lo_197, lo_198, lo_199, lo_200, lo_201, lo_202, lo_203, jp_nn, jp_eq, jp_e1, Classical.not_not, ji0, ji1, ji2, jl_0, jl_1, jl_2, jl_3, jl_4, jl_5, jl_6, jl_7, jl_8, jl_9, jl_10, jl_11, jl_12, jl_13, jl_14, jl_15, jl_16, jl_17, jl_18, jl_19, jl_20, jl_21, jl_22, jl_23, jl_24, jl_25, jl_26, jl_27, jl_28, jl_29, jl_30, jl_31, jl_32, jl_33, jl_34, jl_35, jl_36, jl_37, jl_38, jl_39, jl_40, jl_95, jl_96, jl_97, jl_98, jl_99, jl_100, jl_101, jl_102, jl_103, jl_104, jl_105, jl_106, jl_107, jl_108, jl_109, jl_110, jl_111, jl_112, jl_113, jl_114, jl_186, jl_1100, jr, ju, jpT, jpF, tnc, Nat.reduceEqDiff, reduceIte, and_false, false_and, not_true_eq_false, not_false_eq_true, or_false, gt_iff_lt, ge_iff_le, Int.lt_irrefl, Int.le_refl, e1_w, e2_w, e3_w, e4_w, y, y0, y2, ek]
      refine ⟨k + 1, rfl, by omega, fun b q z => ?_, fun q z => ?_⟩
      · rw [if_neg (fun y => z y.1)]
        exact z2 b q z
      · by_cases yq : q = k
        · rw [if_pos yq, yq]
          exact z2 c' k (fun z => ne z.symm)
        · rw [if_neg yq]
          exact z3 q (by omega)
    · have y2 : (n : Int) ≤ (k : Int) := by omega
      simp only [qe_1, qe_3, qe_4, qe_5, qe_7, qe_72, qe_10, qe_102, qe_13, qe_14, qe_15, qe_16, qe_17, qe_18, qe_20, qe_22, qe_23, qe_21, qe_24, qe_25, qe_26, qe_27, qe_28, qe_30, qe_31, qe_32, qc_20, qc_22, qc_23, qc_21, qc_24, qc_25, qc_26, qc_27, qc_1, qc_3, qc_4, qc_7, qc_13, qc_28, qc_32, qs_1, qs_2, qs_3, qs_4, qs_5, qs_6, qs_9, qs_10, qs_11, qs_14, qs_15, qs_16, qs_27, qs_17, qs_18, qs_19, qs_20, qs_22, qs_23, qs_28, qs_25, qs_26, qs_7, qs_8, kc_1, kn_1, kc_2, kn_2, kc_3, kn_3, kc_4, kn_4, kc_5, kn_5, kc_6, kn_6, kc_7, kn_7, kc_8, kn_8, kc_9, kn_9, kc_10, kn_10, kc_11, kn_11, kc_12, kn_12, kc_13, kn_13, kc_14, kn_14, kc_15, kn_15, kc_16, kc_17, kc_18, kc_19, kc_20, kc_21, kc_22, kc_23, kc_30, kc_32, kc_40, kc_43, kc_45, kc_48, kc_52, kc_56, kc_57, kc_59, kc_60, kc_61, kc_63, kc_64, kc_72, kc_78, kc_97, kc_99, kc_122, kc_126, kc_128, kc_192, kc_200, kc_255, kc_999, kc_1000, kc_9999, kn_9999, kc_10000, kc_12345, kc_65536, kc_252645135, kc_858993459, kc_1103515245, kc_1431655765, kc_2147483647, kc_0, kc_24, kc_28, kc_37, kc_41, kc_42, kc_73, kc_91, kc_95, kc_96, kc_98, kc_100, kc_112, kc_125, kc_150, kc_162, kc_163, kc_168, kc_186, kc_190, kc_250, kc_355, kc_356, kc_404, kc_405, kc_429, kc_573, kc_1002, kc_1100, kc_1891, kc_2200, kc_4719, kc_4869, kc_4881, kc_5148, kc_19741, kc_25433, kc_320403, kc_628412, kc_629093, kc_660401, kc_679843, kc_918640, kc_979410, kc_1178088, kc_6232410, kc_24644941, kc_36238189, kc_38270444, kc_392531318, kc_425693491, kc_1342154595, kc_2147483648, kc_42328242873, kc_891704255789, kc_1722105685577, kc_1858726030364, ct_0, ct_1, ct_2, ct_3, ct_4, ct_5, cf_0, cf_1, cf_2, cf_3, cf_4, cf_5, w_ty6, w_ty7, m_sv, m_z0, m_hd, m_g0, m_gs, m_s0, m_ss, m_ap, m_an, forall_const, true_and, and_true, ne_eq, not_true_eq_false, not_false_eq_true, false_implies, true_implies, implies_true, eq_self, reduceCtorEq, Nat.reduceDiv, Nat.reduceMod, Int.reduceToNat, or_true, true_or, or_false, false_or, or_self, m_it, m_if, m_c1, m_01, m_02, m_03, m_04, m_10, m_12, m_13, m_14, m_20, m_21, m_23, m_24, m_30, m_31, m_32, m_34, m_40, m_41, m_42, m_43, Int.reduceLE, Int.reduceLT, Int.reduceGE, Int.reduceGT, Int.reduceNeg, Int.reduceAdd, Int.reduceSub, Int.reduceMul, Int.reduceEq, Int.reduceNe, Nat.reduceAdd, jun2, ro_0_0, ro_0_1, ro_0_2, ro_0_3, ro_0_4, ro_0_5, ro_0_6, ro_0_7, ro_0_8, ro_0_9, ro_0_10, ro_0_11, ro_0_12, ro_1_0, ro_1_1, ro_2_0, ro_4_0, ro_6_0, ro_6_1, ro_6_2, ro_6_3, ro_6_4, ro_6_5, ro_6_6, ro_6_7, ro_6_8, ro_8_0, ro_10_0, ro_12_0, ro_14_0, ro_16_0, ro_18_0, ro_20_0, ro_22_0, ro_22_1, ro_22_2, ro_23_0, ro_25_0, ro_27_0, ro_29_0, ro_29_1, ro_29_2, ro_29_3, ro_29_4, ro_29_5, ro_29_6, ro_29_7, ro_29_8, ro_31_0, ro_33_0, ro_35_0, ro_37_0, ro_39_0, ro_41_0, ro_43_0, ro_45_0, ro_45_1, ro_45_2, ro_46_0, ro_48_0, ro_50_0, ro_52_0, ro_52_1, ro_52_2, ro_52_3, ro_53_0, ro_55_0, ro_57_0, ro_59_0, ro_61_0, ro_61_1, ro_61_2, ro_61_3, ro_62_0, ro_64_0, ro_66_0, ro_68_0, ro_70_0, ro_70_1, ro_70_2, ro_70_3, ro_70_4, ro_70_5, ro_70_6, ro_70_7, ro_70_8, ro_70_9, ro_71_0, ro_73_0, ro_75_0, ro_77_0, ro_79_0, ro_81_0, ro_83_0, ro_85_0, ro_87_0, ro_89_0, ro_91_0, ro_91_1, ro_91_2, ro_91_3, ro_91_4, ro_91_5, ro_91_6, ro_91_7, ro_91_8, ro_91_9, ro_92_0, ro_94_0, ro_96_0, ro_98_0, ro_100_0, ro_102_0, ro_104_0, ro_106_0, ro_108_0, ro_110_0, ro_112_0, ro_112_1, ro_112_2, ro_112_3, ro_112_4, ro_112_5, ro_112_6, ro_112_7, ro_112_8, ro_112_9, ro_113_0, ro_115_0, ro_117_0, ro_119_0, ro_121_0, ro_123_0, ro_125_0, ro_127_0, ro_129_0, ro_131_0, ro_133_0, ro_133_1, ro_133_2, ro_133_3, ro_133_4, ro_133_5, ro_133_6, ro_133_7, ro_133_8, ro_133_9, ro_134_0, ro_136_0, ro_138_0, ro_140_0, ro_142_0, ro_144_0, ro_146_0, ro_148_0, ro_150_0, ro_152_0, ro_154_0, ro_155_0, ro_157_0, ro_157_1, ro_157_2, ro_157_3, ro_157_4, ro_157_5, ro_157_6, ro_157_7, ro_157_8, ro_157_9, ro_158_0, ro_160_0, ro_162_0, ro_164_0, ro_166_0, ro_168_0, ro_170_0, ro_172_0, ro_174_0, ro_176_0, ro_178_0, ro_180_0, ro_182_1, ro_182_4, ro_182_5, ro_182_6, ro_182_9, ro_182_10, ro_182_11, ro_182_13, ro_182_14, ro_182_15, ro_182_16, ro_182_17, ro_182_20, ro_182_21, ro_182_22, ro_182_23, ro_182_24, ro_182_26, ro_182_27, ro_182_28, lo_3, lo_5, lo_7, lo_9, lo_11, lo_13, lo_15, lo_17, lo_19, lo_21, lo_24, lo_26, lo_28, lo_30, lo_32, lo_34, lo_36, lo_38, lo_40, lo_42, lo_44, lo_47, lo_49, lo_51, lo_54, lo_56, lo_58, lo_60, lo_63, lo_65, lo_67, lo_69, lo_72, lo_74, lo_76, lo_78, lo_80, lo_82, lo_84, lo_86, lo_88, lo_90, lo_93, lo_95, lo_97, lo_99, lo_101, lo_103, lo_105, lo_107, lo_109, lo_111, lo_114, lo_116, lo_118, lo_120, lo_122, lo_124, lo_126, lo_128, lo_130, lo_132, lo_135, lo_137, lo_139, lo_141, lo_143, lo_145, lo_147, lo_149, lo_151, lo_153, lo_156, lo_159, lo_161, lo_163, lo_165, lo_167, lo_169, lo_171, lo_173, lo_175, lo_177, lo_179, lo_181, lo_183, lo_184, lo_185, lo_186, lo_187, lo_188, lo_189, lo_190, lo_191, lo_192, lo_193, lo_194, lo_195, lo_196, lo_197, lo_198, lo_199, lo_200, lo_201, lo_202, lo_203, jp_nn, jp_eq, jp_e1, Classical.not_not, ji0, ji1, ji2, jl_0, jl_1, jl_2, jl_3, jl_4, jl_5, jl_6, jl_7, jl_8, jl_9, jl_10, jl_11, jl_12, jl_13, jl_14, jl_15, jl_16, jl_17, jl_18, jl_19, jl_20, jl_21, jl_22, jl_23, jl_24, jl_25, jl_26, jl_27, jl_28, jl_29, jl_30, jl_31, jl_32, jl_33, jl_34, jl_35, jl_36, jl_37, jl_38, jl_39, jl_40, jl_95, jl_96, jl_97, jl_98, jl_99, jl_100, jl_101, jl_102, jl_103, jl_104, jl_105, jl_106, jl_107, jl_108, jl_109, jl_110, jl_111, jl_112, jl_113, jl_114, jl_186, jl_1100, jr, ju, jpT, jpF, tnc, Nat.reduceEqDiff, reduceIte, and_false, false_and, not_true_eq_false, not_false_eq_true, or_false, gt_iff_lt, ge_iff_le, Int.lt_irrefl, Int.le_refl, e1_w, e2_w, e3_w, e4_w, y, y2]
      have ek : k = n := by omega
      subst ek
      exact hQ h1 z2 z3
  · exact hQ.elim
theorem m_80 : BodyOK CS22 CS22 80 := fun av h Q hQ => by
  rw [cs22_80] at hQ
  unfold k80 at hQ
  split at hQ
  · rename_i o p
    obtain ⟨rfl, rfl, hQ⟩ := hQ
    show pS CS22 bb_80 [22, 45] h _
    unfold bb_80
    simp only [qe_1, qe_3, qe_4, qe_5, qe_7, qe_72, qe_10, qe_102, qe_13, qe_14, qe_15, qe_16, qe_17, qe_18, qe_20, qe_22, qe_23, qe_21, qe_24, qe_25, qe_26, qe_27, qe_28, qe_30, qe_31, qe_32, qc_20, qc_22, qc_23, qc_21, qc_24, qc_25, qc_26, qc_27, qc_1, qc_3, qc_4, qc_7, qc_13, qc_28, qc_32, qs_1, qs_2, qs_3, qs_4, qs_5, qs_6, qs_9, qs_10, qs_11, qs_14, qs_15, qs_16, qs_27, qs_17, qs_18, qs_19, qs_20, qs_22, qs_23, qs_28, qs_25, qs_26, qs_7, qs_8, kc_1, kn_1, kc_2, kn_2, kc_3, kn_3, kc_4, kn_4, kc_5, kn_5, kc_6, kn_6, kc_7, kn_7, kc_8, kn_8, kc_9, kn_9, kc_10, kn_10, kc_11, kn_11, kc_12, kn_12, kc_13, kn_13, kc_14, kn_14, kc_15, kn_15, kc_16, kc_17, kc_18, kc_19, kc_20, kc_21, kc_22, kc_23, kc_30, kc_32, kc_40, kc_43, kc_45, kc_48, kc_52, kc_56, kc_57, kc_59, kc_60, kc_61, kc_63, kc_64, kc_72, kc_78, kc_97, kc_99, kc_122, kc_126, kc_128, kc_192, kc_200, kc_255, kc_999, kc_1000, kc_9999, kn_9999, kc_10000, kc_12345, kc_65536, kc_252645135, kc_858993459, kc_1103515245, kc_1431655765, kc_2147483647, kc_0, kc_24, kc_28, kc_37, kc_41, kc_42, kc_73, kc_91, kc_95, kc_96, kc_98, kc_100, kc_112, kc_125, kc_150, kc_162, kc_163, kc_168, kc_186, kc_190, kc_250, kc_355, kc_356, kc_404, kc_405, kc_429, kc_573, kc_1002, kc_1100, kc_1891, kc_2200, kc_4719, kc_4869, kc_4881, kc_5148, kc_19741, kc_25433, kc_320403, kc_628412, kc_629093, kc_660401, kc_679843, kc_918640, kc_979410, kc_1178088, kc_6232410, kc_24644941, kc_36238189, kc_38270444, kc_392531318, kc_425693491, kc_1342154595, kc_2147483648, kc_42328242873, kc_891704255789, kc_1722105685577, kc_1858726030364, ct_0, ct_1, ct_2, ct_3, ct_4, ct_5, cf_0, cf_1, cf_2, cf_3, cf_4, cf_5, w_ty6, w_ty7, m_sv, m_z0, m_hd, m_g0, m_gs, m_s0, m_ss, m_ap, m_an, forall_const, true_and, and_true, ne_eq, not_true_eq_false, not_false_eq_true, false_implies, true_implies, implies_true, eq_self, reduceCtorEq, Nat.reduceDiv, Nat.reduceMod, Int.reduceToNat, or_true, true_or, or_false, false_or, or_self, m_it, m_if, m_c1, m_01, m_02, m_03, m_04, m_10, m_12, m_13, m_14, m_20, m_21, m_23, m_24, m_30, m_31, m_32, m_34, m_40, m_41, m_42, m_43, Int.reduceLE, Int.reduceLT, Int.reduceGE, Int.reduceGT, Int.reduceNeg, Int.reduceAdd, Int.reduceSub, Int.reduceMul, Int.reduceEq, Int.reduceNe, Nat.reduceAdd, jun2, ro_0_0, ro_0_1, ro_0_2, ro_0_3, ro_0_4, ro_0_5, ro_0_6, ro_0_7, ro_0_8, ro_0_9, ro_0_10, ro_0_11, ro_0_12, ro_1_0, ro_1_1, ro_2_0, ro_4_0, ro_6_0, ro_6_1, ro_6_2, ro_6_3, ro_6_4, ro_6_5, ro_6_6, ro_6_7, ro_6_8, ro_8_0, ro_10_0, ro_12_0, ro_14_0, ro_16_0, ro_18_0, ro_20_0, ro_22_0, ro_22_1, ro_22_2, ro_23_0, ro_25_0, ro_27_0, ro_29_0, ro_29_1, ro_29_2, ro_29_3, ro_29_4, ro_29_5, ro_29_6, ro_29_7, ro_29_8, ro_31_0, ro_33_0, ro_35_0, ro_37_0, ro_39_0, ro_41_0, ro_43_0, ro_45_0, ro_45_1, ro_45_2, ro_46_0, ro_48_0, ro_50_0, ro_52_0, ro_52_1, ro_52_2, ro_52_3, ro_53_0, ro_55_0, ro_57_0, ro_59_0, ro_61_0, ro_61_1, ro_61_2, ro_61_3, ro_62_0, ro_64_0, ro_66_0, ro_68_0, ro_70_0, ro_70_1, ro_70_2, ro_70_3, ro_70_4, ro_70_5, ro_70_6, ro_70_7, ro_70_8, ro_70_9, ro_71_0, ro_73_0, ro_75_0, ro_77_0, ro_79_0, ro_81_0, ro_83_0, ro_85_0, ro_87_0, ro_89_0, ro_91_0, ro_91_1, ro_91_2, ro_91_3, ro_91_4, ro_91_5, ro_91_6, ro_91_7, ro_91_8, ro_91_9, ro_92_0, ro_94_0, ro_96_0, ro_98_0, ro_100_0, ro_102_0, ro_104_0, ro_106_0, ro_108_0, ro_110_0, ro_112_0, ro_112_1, ro_112_2, ro_112_3, ro_112_4, ro_112_5, ro_112_6, ro_112_7, ro_112_8, ro_112_9, ro_113_0, ro_115_0, ro_117_0, ro_119_0, ro_121_0, ro_123_0, ro_125_0, ro_127_0, ro_129_0, ro_131_0, ro_133_0, ro_133_1, ro_133_2, ro_133_3, ro_133_4, ro_133_5, ro_133_6, ro_133_7, ro_133_8, ro_133_9, ro_134_0, ro_136_0, ro_138_0, ro_140_0, ro_142_0, ro_144_0, ro_146_0, ro_148_0, ro_150_0, ro_152_0, ro_154_0, ro_155_0, ro_157_0, ro_157_1, ro_157_2, ro_157_3, ro_157_4, ro_157_5, ro_157_6, ro_157_7, ro_157_8, ro_157_9, ro_158_0, ro_160_0, ro_162_0, ro_164_0, ro_166_0, ro_168_0, ro_170_0, ro_172_0, ro_174_0, ro_176_0, ro_178_0, ro_180_0, ro_182_1, ro_182_4, ro_182_5, ro_182_6, ro_182_9, ro_182_10, ro_182_11, ro_182_13, ro_182_14, ro_182_15, ro_182_16, ro_182_17, ro_182_20, ro_182_21, ro_182_22, ro_182_23, ro_182_24, ro_182_26, ro_182_27, ro_182_28, lo_3, lo_5, lo_7, lo_9, lo_11, lo_13, lo_15, lo_17, lo_19, lo_21, lo_24, lo_26, lo_28, lo_30, lo_32, lo_34, lo_36, lo_38, lo_40, lo_42, lo_44, lo_47, lo_49, lo_51, lo_54, lo_56, lo_58, lo_60, lo_63, lo_65, lo_67, lo_69, lo_72, lo_74, lo_76, lo_78, lo_80, lo_82, lo_84, lo_86, lo_88, lo_90, lo_93, lo_95, lo_97, lo_99, lo_101, lo_103, lo_105, lo_107, lo_109, lo_111, lo_114, lo_116, lo_118, lo_120, lo_122, lo_124, lo_126, lo_128, lo_130, lo_132, lo_135, lo_137, lo_139, lo_141, lo_143, lo_145, lo_147, lo_149, lo_151, lo_153, lo_156, lo_159, lo_161, lo_163, lo_165, lo_167, lo_169, lo_171, lo_173, lo_175, lo_177, lo_179, lo_181, lo_183, lo_184, lo_185, lo_186, lo_187, lo_188, lo_189, lo_190, lo_191, lo_192, lo_193, lo_194, lo_195, lo_196, lo_197, lo_198, lo_199, lo_200, lo_201, lo_202, lo_203, jp_nn, jp_eq, jp_e1, Classical.not_not, ji0, ji1, ji2, cs22_58, kk_58, jl_0, jl_1, jl_2, jl_3, jl_4, jl_5, jl_6, jl_7, jl_8, jl_9, jl_10, jl_11, jl_12, jl_13, jl_14, jl_15, jl_16, jl_17, jl_18, jl_19, jl_20, jl_21, jl_22, jl_23, jl_24, jl_25, jl_26, jl_27, jl_28, jl_29, jl_30, jl_31, jl_32, jl_33, jl_34, jl_35, jl_36, jl_37, jl_38, jl_39, jl_40, jl_95, jl_96, jl_97, jl_98, jl_99, jl_100, jl_101, jl_102, jl_103, jl_104, jl_105, jl_106, jl_107, jl_108, jl_109, jl_110, jl_111, jl_112, jl_113, jl_114, jl_186, jl_1100, jr, ju, jpT, jpF, tnc, Nat.reduceEqDiff, reduceIte, and_false, false_and, not_true_eq_false, not_false_eq_true, or_false, gt_iff_lt, ge_iff_le, Int.lt_irrefl, Int.le_refl]
    refine ⟨24, 47, 1000, rfl, rfl, lo_24, lo_47, by decide, by decide, fun h1 f1_w g1 => hQ h1 (fun b k z => (f1_w b k (by omega)).trans (up_ne (by omega))) ((f1_w 22 3 (by decide)).trans up_eq) (fun k z => (g1 k z).trans (up_ne (by omega)))⟩
  · exact hQ.elim
theorem m_97s : BodyOK CS22 CS22 97 := fun av h Q hQ => by
  rw [cs22_97] at hQ
  unfold k97s at hQ
  split at hQ
  · rename_i o p
    obtain ⟨rfl, rfl, hQ⟩ := hQ
    show pS CS22 bb_97 [6, 29, 0] h _
    unfold bb_97
    simp only [qe_1, qe_3, qe_4, qe_5, qe_7, qe_72, qe_10, qe_102, qe_13, qe_14, qe_15, qe_16, qe_17, qe_18, qe_20, qe_22, qe_23, qe_21, qe_24, qe_25, qe_26, qe_27, qe_28, qe_30, qe_31, qe_32, qc_20, qc_22, qc_23, qc_21, qc_24, qc_25, qc_26, qc_27, qc_1, qc_3, qc_4, qc_7, qc_13, qc_28, qc_32, qs_1, qs_2, qs_3, qs_4, qs_5, qs_6, qs_9, qs_10, qs_11, qs_14, qs_15, qs_16, qs_27, qs_17, qs_18, qs_19, qs_20, qs_22, qs_23, qs_28, qs_25, qs_26, qs_7, qs_8, kc_1, kn_1, kc_2, kn_2, kc_3, kn_3, kc_4, kn_4, kc_5, kn_5, kc_6, kn_6, kc_7, kn_7, kc_8, kn_8, kc_9, kn_9, kc_10, kn_10, kc_11, kn_11, kc_12, kn_12, kc_13, kn_13, kc_14, kn_14, kc_15, kn_15, kc_16, kc_17, kc_18, kc_19, kc_20, kc_21, kc_22, kc_23, kc_30, kc_32, kc_40, kc_43, kc_45, kc_48, kc_52, kc_56, kc_57, kc_59, kc_60, kc_61, kc_63, kc_64, kc_72, kc_78, kc_97, kc_99, kc_122, kc_126, kc_128, kc_192, kc_200, kc_255, kc_999, kc_1000, kc_9999, kn_9999, kc_10000, kc_12345, kc_65536, kc_252645135, kc_858993459, kc_1103515245, kc_1431655765, kc_2147483647, kc_0, kc_24, kc_28, kc_37, kc_41, kc_42, kc_73, kc_91, kc_95, kc_96, kc_98, kc_100, kc_112, kc_125, kc_150, kc_162, kc_163, kc_168, kc_186, kc_190, kc_250, kc_355, kc_356, kc_404, kc_405, kc_429, kc_573, kc_1002, kc_1100, kc_1891, kc_2200, kc_4719, kc_4869, kc_4881, kc_5148, kc_19741, kc_25433, kc_320403, kc_628412, kc_629093, kc_660401, kc_679843, kc_918640, kc_979410, kc_1178088, kc_6232410, kc_24644941, kc_36238189, kc_38270444, kc_392531318, kc_425693491, kc_1342154595, kc_2147483648, kc_42328242873, kc_891704255789, kc_1722105685577, kc_1858726030364, ct_0, ct_1, ct_2, ct_3, ct_4, ct_5, cf_0, cf_1, cf_2, cf_3, cf_4, cf_5, w_ty6, w_ty7, m_sv, m_z0, m_hd, m_g0, m_gs, m_s0, m_ss, m_ap, m_an, forall_const, true_and, and_true, ne_eq, not_true_eq_false, not_false_eq_true, false_implies, true_implies, implies_true, eq_self, reduceCtorEq, Nat.reduceDiv, Nat.reduceMod, Int.reduceToNat, or_true, true_or, or_false, false_or, or_self, m_it, m_if, m_c1, m_01, m_02, m_03, m_04, m_10, m_12, m_13, m_14, m_20, m_21, m_23, m_24, m_30, m_31, m_32, m_34, m_40, m_41, m_42, m_43, Int.reduceLE, Int.reduceLT, Int.reduceGE, Int.reduceGT, Int.reduceNeg, Int.reduceAdd, Int.reduceSub, Int.reduceMul, Int.reduceEq, Int.reduceNe, Nat.reduceAdd, jun2, ro_0_0, ro_0_1, ro_0_2, ro_0_3, ro_0_4, ro_0_5, ro_0_6, ro_0_7, ro_0_8, ro_0_9, ro_0_10, ro_0_11, ro_0_12, ro_1_0, ro_1_1, ro_2_0, ro_4_0, ro_6_0, ro_6_1, ro_6_2, ro_6_3, ro_6_4, ro_6_5, ro_6_6, ro_6_7, ro_6_8, ro_8_0, ro_10_0, ro_12_0, ro_14_0, ro_16_0, ro_18_0, ro_20_0, ro_22_0, ro_22_1, ro_22_2, ro_23_0, ro_25_0, ro_27_0, ro_29_0, ro_29_1, ro_29_2, ro_29_3, ro_29_4, ro_29_5, ro_29_6, ro_29_7, ro_29_8, ro_31_0, ro_33_0, ro_35_0, ro_37_0, ro_39_0, ro_41_0, ro_43_0, ro_45_0, ro_45_1, ro_45_2, ro_46_0, ro_48_0, ro_50_0, ro_52_0, ro_52_1, ro_52_2, ro_52_3, ro_53_0, ro_55_0, ro_57_0, ro_59_0, ro_61_0, ro_61_1, ro_61_2, ro_61_3, ro_62_0, ro_64_0, ro_66_0, ro_68_0, ro_70_0, ro_70_1, ro_70_2, ro_70_3, ro_70_4, ro_70_5, ro_70_6, ro_70_7, ro_70_8, ro_70_9, ro_71_0, ro_73_0, ro_75_0, ro_77_0, ro_79_0, ro_81_0, ro_83_0, ro_85_0, ro_87_0, ro_89_0, ro_91_0, ro_91_1, ro_91_2, ro_91_3, ro_91_4, ro_91_5, ro_91_6, ro_91_7, ro_91_8, ro_91_9, ro_92_0, ro_94_0, ro_96_0, ro_98_0, ro_100_0, ro_102_0, ro_104_0, ro_106_0, ro_108_0, ro_110_0, ro_112_0, ro_112_1, ro_112_2, ro_112_3, ro_112_4, ro_112_5, ro_112_6, ro_112_7, ro_112_8, ro_112_9, ro_113_0, ro_115_0, ro_117_0, ro_119_0, ro_121_0, ro_123_0, ro_125_0, ro_127_0, ro_129_0, ro_131_0, ro_133_0, ro_133_1, ro_133_2, ro_133_3, ro_133_4, ro_133_5, ro_133_6, ro_133_7, ro_133_8, ro_133_9, ro_134_0, ro_136_0, ro_138_0, ro_140_0, ro_142_0, ro_144_0, ro_146_0, ro_148_0, ro_150_0, ro_152_0, ro_154_0, ro_155_0, ro_157_0, ro_157_1, ro_157_2, ro_157_3, ro_157_4, ro_157_5, ro_157_6, ro_157_7, ro_157_8, ro_157_9, ro_158_0, ro_160_0, ro_162_0, ro_164_0, ro_166_0, ro_168_0, ro_170_0, ro_172_0, ro_174_0, ro_176_0, ro_178_0, ro_180_0, ro_182_1, ro_182_4, ro_182_5, ro_182_6, ro_182_9, ro_182_10, ro_182_11, ro_182_13, ro_182_14, ro_182_15, ro_182_16, ro_182_17, ro_182_20, ro_182_21, ro_182_22, ro_182_23, ro_182_24, ro_182_26, ro_182_27, ro_182_28, lo_3, lo_5, lo_7, lo_9, lo_11, lo_13, lo_15, lo_17, lo_19, lo_21, lo_24, lo_26, lo_28, lo_30, lo_32, lo_34, lo_36, lo_38, lo_40, lo_42, lo_44, lo_47, lo_49, lo_51, lo_54, lo_56, lo_58, lo_60, lo_63, lo_65, lo_67, lo_69, lo_72, lo_74, lo_76, lo_78, lo_80, lo_82, lo_84, lo_86, lo_88, lo_90, lo_93, lo_95, lo_97, lo_99, lo_101, lo_103, lo_105, lo_107, lo_109, lo_111, lo_114, lo_116, lo_118, lo_120, lo_122, lo_124, lo_126, lo_128, lo_130, lo_132, lo_135, lo_137, lo_139, lo_141, lo_143, lo_145, lo_147, lo_149, lo_151, lo_153, lo_156, lo_159, lo_161, lo_163, lo_165, lo_167, lo_169, lo_171, lo_173, lo_175, lo_177, lo_179, lo_181, lo_183, lo_184, lo_185, lo_186, lo_187, lo_188, lo_189, lo_190, lo_191, lo_192, lo_193, lo_194, lo_195, lo_196, lo_197, lo_198, lo_199, lo_200, lo_201, lo_202, lo_203, jp_nn, jp_eq, jp_e1, Classical.not_not, ji0, ji1, ji2, cs22_58, kk_58, cs22_80, kk_80, jl_0, jl_1, jl_2, jl_3, jl_4, jl_5, jl_6, jl_7, jl_8, jl_9, jl_10, jl_11, jl_12, jl_13, jl_14, jl_15, jl_16, jl_17, jl_18, jl_19, jl_20, jl_21, jl_22, jl_23, jl_24, jl_25, jl_26, jl_27, jl_28, jl_29, jl_30, jl_31, jl_32, jl_33, jl_34, jl_35, jl_36, jl_37, jl_38, jl_39, jl_40, jl_95, jl_96, jl_97, jl_98, jl_99, jl_100, jl_101, jl_102, jl_103, jl_104, jl_105, jl_106, jl_107, jl_108, jl_109, jl_110, jl_111, jl_112, jl_113, jl_114, jl_186, jl_1100, jr, ju, jpT, jpF, tnc, Nat.reduceEqDiff, reduceIte, and_false, false_and, not_true_eq_false, not_false_eq_true, or_false, gt_iff_lt, ge_iff_le, Int.lt_irrefl, Int.le_refl]
    refine qp_lp (fun en h' => ∃ k : Nat, en = [6, 29, (k : Int)] ∧ k ≤ 14 ∧ (∀ b k : Nat, b ≠ 7 → h' b k = h b k) ∧ ∀ q : Nat, q < k → h' 7 q = h 30 q) ⟨0, rfl, Nat.zero_le _, fun _ _ _ => rfl, fun q z => by omega⟩ ?_
    intro en h1 ⟨k, e5_w, z1, z2, z3⟩
    subst e5_w
    by_cases y : (k : Int) < 14
    · have y2 : ¬ (14 : Int) ≤ (k : Int) := by omega
      have y0 : (0 : Int) ≤ (k : Int) := by omega
      have ek := jk1 (k := k) (by omega)
      simp only [qe_1, qe_3, qe_4, qe_5, qe_7, qe_72, qe_10, qe_102, qe_13, qe_14, qe_15, qe_16, qe_17, qe_18, qe_20, qe_22, qe_23, qe_21, qe_24, qe_25, qe_26, qe_27, qe_28, qe_30, qe_31, qe_32, qc_20, qc_22, qc_23, qc_21, qc_24, qc_25, qc_26, qc_27, qc_1, qc_3, qc_4, qc_7, qc_13, qc_28, qc_32, qs_1, qs_2, qs_3, qs_4, qs_5, qs_6, qs_9, qs_10, qs_11, qs_14, qs_15, qs_16, qs_27, qs_17, qs_18, qs_19, qs_20, qs_22, qs_23, qs_28, qs_25, qs_26, qs_7, qs_8, kc_1, kn_1, kc_2, kn_2, kc_3, kn_3, kc_4, kn_4, kc_5, kn_5, kc_6, kn_6, kc_7, kn_7, kc_8, kn_8, kc_9, kn_9, kc_10, kn_10, kc_11, kn_11, kc_12, kn_12, kc_13, kn_13, kc_14, kn_14, kc_15, kn_15, kc_16, kc_17, kc_18, kc_19, kc_20, kc_21, kc_22, kc_23, kc_30, kc_32, kc_40, kc_43, kc_45, kc_48, kc_52, kc_56, kc_57, kc_59, kc_60, kc_61, kc_63, kc_64, kc_72, kc_78, kc_97, kc_99, kc_122, kc_126, kc_128, kc_192, kc_200, kc_255, kc_999, kc_1000, kc_9999, kn_9999, kc_10000, kc_12345, kc_65536, kc_252645135, kc_858993459, kc_1103515245, kc_1431655765, kc_2147483647, kc_0, kc_24, kc_28, kc_37, kc_41, kc_42, kc_73, kc_91, kc_95, kc_96, kc_98, kc_100, kc_112, kc_125, kc_150, kc_162, kc_163, kc_168, kc_186, kc_190, kc_250, kc_355, kc_356, kc_404, kc_405, kc_429, kc_573, kc_1002, kc_1100, kc_1891, kc_2200, kc_4719, kc_4869, kc_4881, kc_5148, kc_19741, kc_25433, kc_320403, kc_628412, kc_629093, kc_660401, kc_679843, kc_918640, kc_979410, kc_1178088, kc_6232410, kc_24644941, kc_36238189, kc_38270444, kc_392531318, kc_425693491, kc_1342154595, kc_2147483648, kc_42328242873, kc_891704255789, kc_1722105685577, kc_1858726030364, ct_0, ct_1, ct_2, ct_3, ct_4, ct_5, cf_0, cf_1, cf_2, cf_3, cf_4, cf_5, w_ty6, w_ty7, m_sv, m_z0, m_hd, m_g0, m_gs, m_s0, m_ss, m_ap, m_an, forall_const, true_and, and_true, ne_eq, not_true_eq_false, not_false_eq_true, false_implies, true_implies, implies_true, eq_self, reduceCtorEq, Nat.reduceDiv, Nat.reduceMod, Int.reduceToNat, or_true, true_or, or_false, false_or, or_self, m_it, m_if, m_c1, m_01, m_02, m_03, m_04, m_10, m_12, m_13, m_14, m_20, m_21, m_23, m_24, m_30, m_31, m_32, m_34, m_40, m_41, m_42, m_43, Int.reduceLE, Int.reduceLT, Int.reduceGE, Int.reduceGT, Int.reduceNeg, Int.reduceAdd, Int.reduceSub, Int.reduceMul, Int.reduceEq, Int.reduceNe, Nat.reduceAdd, jun2, ro_0_0, ro_0_1, ro_0_2, ro_0_3, ro_0_4, ro_0_5, ro_0_6, ro_0_7, ro_0_8, ro_0_9, ro_0_10, ro_0_11, ro_0_12, ro_1_0, ro_1_1, ro_2_0, ro_4_0, ro_6_0, ro_6_1, ro_6_2, ro_6_3, ro_6_4, ro_6_5, ro_6_6, ro_6_7, ro_6_8, ro_8_0, ro_10_0, ro_12_0, ro_14_0, ro_16_0, ro_18_0, ro_20_0, ro_22_0, ro_22_1, ro_22_2, ro_23_0, ro_25_0, ro_27_0, ro_29_0, ro_29_1, ro_29_2, ro_29_3, ro_29_4, ro_29_5, ro_29_6, ro_29_7, ro_29_8, ro_31_0, ro_33_0, ro_35_0, ro_37_0, ro_39_0, ro_41_0, ro_43_0, ro_45_0, ro_45_1, ro_45_2, ro_46_0, ro_48_0, ro_50_0, ro_52_0, ro_52_1, ro_52_2, ro_52_3, ro_53_0, ro_55_0, ro_57_0, ro_59_0, ro_61_0, ro_61_1, ro_61_2, ro_61_3, ro_62_0, ro_64_0, ro_66_0, ro_68_0, ro_70_0, ro_70_1, ro_70_2, ro_70_3, ro_70_4, ro_70_5, ro_70_6, ro_70_7, ro_70_8, ro_70_9, ro_71_0, ro_73_0, ro_75_0, ro_77_0, ro_79_0, ro_81_0, ro_83_0, ro_85_0, ro_87_0, ro_89_0, ro_91_0, ro_91_1, ro_91_2, ro_91_3, ro_91_4, ro_91_5, ro_91_6, ro_91_7, ro_91_8, ro_91_9, ro_92_0, ro_94_0, ro_96_0, ro_98_0, ro_100_0, ro_102_0, ro_104_0, ro_106_0, ro_108_0, ro_110_0, ro_112_0, ro_112_1, ro_112_2, ro_112_3, ro_112_4, ro_112_5, ro_112_6, ro_112_7, ro_112_8, ro_112_9, ro_113_0, ro_115_0, ro_117_0, ro_119_0, ro_121_0, ro_123_0, ro_125_0, ro_127_0, ro_129_0, ro_131_0, ro_133_0, ro_133_1, ro_133_2, ro_133_3, ro_133_4, ro_133_5, ro_133_6, ro_133_7, ro_133_8, ro_133_9, ro_134_0, ro_136_0, ro_138_0, ro_140_0, ro_142_0, ro_144_0, ro_146_0, ro_148_0, ro_150_0, ro_152_0, ro_154_0, ro_155_0, ro_157_0, ro_157_1, ro_157_2, ro_157_3, ro_157_4, ro_157_5, ro_157_6, ro_157_7, ro_157_8, ro_157_9, ro_158_0, ro_160_0, ro_162_0, ro_164_0, ro_166_0, ro_168_0, ro_170_0, ro_172_0, ro_174_0, ro_176_0, ro_178_0, ro_180_0, ro_182_1, ro_182_4, ro_182_5, ro_182_6, ro_182_9, ro_182_10, ro_182_11, ro_182_13, ro_182_14, ro_182_15, ro_182_16, ro_182_17, ro_182_20, ro_182_21, ro_182_22, ro_182_23, ro_182_24, ro_182_26, ro_182_27, ro_182_28, lo_3, lo_5, lo_7, lo_9, lo_11, lo_13, lo_15, lo_17, lo_19, lo_21, lo_24, lo_26, lo_28, lo_30, lo_32, lo_34, lo_36, lo_38, lo_40, lo_42, lo_44, lo_47, lo_49, lo_51, lo_54, lo_56, lo_58, lo_60, lo_63, lo_65, lo_67, lo_69, lo_72, lo_74, lo_76, lo_78, lo_80, lo_82, lo_84, lo_86, lo_88, lo_90, lo_93, lo_95, lo_97, lo_99, lo_101, lo_103, lo_105, lo_107, lo_109, lo_111, lo_114, lo_116, lo_118, lo_120, lo_122, lo_124, lo_126, lo_128, lo_130, lo_132, lo_135, lo_137, lo_139, lo_141, lo_143, lo_145, lo_147, lo_149, lo_151, lo_153, lo_156, lo_159, lo_161, lo_163, lo_165, lo_167, lo_169, lo_171, lo_173, lo_175, lo_177, lo_179, lo_181, lo_183, lo_184, lo_185, lo_186, lo_187, lo_188, lo_189, lo_190, lo_191, lo_192, lo_193, lo_194, lo_195, lo_196, lo_197, lo_198, lo_199, lo_200, lo_201, lo_202, lo_203, jp_nn, jp_eq, jp_e1, Classical.not_not, ji0, ji1, ji2, cs22_58, kk_58, cs22_80, kk_80, jl_0, jl_1, jl_2, jl_3, jl_4, jl_5, jl_6, jl_7, jl_8, jl_9, jl_10, jl_11, jl_12, jl_13, jl_14, jl_15, jl_16, jl_17, jl_18, jl_19, jl_20, jl_21, jl_22, jl_23, jl_24, jl_25, jl_26, jl_27, jl_28, jl_29, jl_30, jl_31, jl_32, jl_33, jl_34, jl_35, jl_36, jl_37, jl_38, jl_39, jl_40, jl_95, jl_96, jl_97, jl_98, jl_99, jl_100, jl_101, jl_102, jl_103, jl_104, jl_105, jl_106, jl_107, jl_108, jl_109, jl_110, jl_111, jl_112, jl_113, jl_114, jl_186, jl_1100, jr, ju, jpT, jpF, tnc, Nat.reduceEqDiff, reduceIte, and_false, false_and, not_true_eq_false, not_false_eq_true, or_false, gt_iff_lt, ge_iff_le, Int.lt_irrefl, Int.le_refl, y, y0, y2, ek]
      refine ⟨k + 1, rfl, by omega, fun b q z => ?_, fun q z => ?_⟩
      · rw [if_neg (fun y => z y.1)]
        exact z2 b q z
      · by_cases yq : q = k
        · rw [if_pos yq, yq]
          exact z2 30 k (by decide)
        · rw [if_neg yq]
          exact z3 q (by omega)
    · have y2 : (14 : Int) ≤ (k : Int) := by omega
      have ek : k = 14 := by omega
      subst ek
      simp only [qe_1, qe_3, qe_4, qe_5, qe_7, qe_72, qe_10, qe_102, qe_13, qe_14, qe_15, qe_16, qe_17, qe_18, qe_20, qe_22, qe_23, qe_21, qe_24, qe_25, qe_26, qe_27, qe_28, qe_30, qe_31, qe_32, qc_20, qc_22, qc_23, qc_21, qc_24, qc_25, qc_26, qc_27, qc_1, qc_3, qc_4, qc_7, qc_13, qc_28, qc_32, qs_1, qs_2, qs_3, qs_4, qs_5, qs_6, qs_9, qs_10, qs_11, qs_14, qs_15, qs_16, qs_27, qs_17, qs_18, qs_19, qs_20, qs_22, qs_23, qs_28, qs_25, qs_26, qs_7, qs_8, kc_1, kn_1, kc_2, kn_2, kc_3, kn_3, kc_4, kn_4, kc_5, kn_5, kc_6, kn_6, kc_7, kn_7, kc_8, kn_8, kc_9, kn_9, kc_10, kn_10, kc_11, kn_11, kc_12, kn_12, kc_13, kn_13, kc_14, kn_14, kc_15, kn_15, kc_16, kc_17, kc_18, kc_19, kc_20, kc_21, kc_22, kc_23, kc_30, kc_32, kc_40, kc_43, kc_45, kc_48, kc_52, kc_56, kc_57, kc_59, kc_60, kc_61, kc_63, kc_64, kc_72, kc_78, kc_97, kc_99, kc_122, kc_126, kc_128, kc_192, kc_200, kc_255, kc_999, kc_1000, kc_9999, kn_9999, kc_10000, kc_12345, kc_65536, kc_252645135, kc_858993459, kc_1103515245, kc_1431655765, kc_2147483647, kc_0, kc_24, kc_28, kc_37, kc_41, kc_42, kc_73, kc_91, kc_95, kc_96, kc_98, kc_100, kc_112, kc_125, kc_150, kc_162, kc_163, kc_168, kc_186, kc_190, kc_250, kc_355, kc_356, kc_404, kc_405, kc_429, kc_573, kc_1002, kc_1100, kc_1891, kc_2200, kc_4719, kc_4869, kc_4881, kc_5148, kc_19741, kc_25433, kc_320403, kc_628412, kc_629093, kc_660401, kc_679843, kc_918640, kc_979410, kc_1178088, kc_6232410, kc_24644941, kc_36238189, kc_38270444, kc_392531318, kc_425693491, kc_1342154595, kc_2147483648, kc_42328242873, kc_891704255789, kc_1722105685577, kc_1858726030364, ct_0, ct_1, ct_2, ct_3, ct_4, ct_5, cf_0, cf_1, cf_2, cf_3, cf_4, cf_5, w_ty6, w_ty7, m_sv, m_z0, m_hd, m_g0, m_gs, m_s0, m_ss, m_ap, m_an, forall_const, true_and, and_true, ne_eq, not_true_eq_false, not_false_eq_true, false_implies, true_implies, implies_true, eq_self, reduceCtorEq, Nat.reduceDiv, Nat.reduceMod, Int.reduceToNat, or_true, true_or, or_false, false_or, or_self, m_it, m_if, m_c1, m_01, m_02, m_03, m_04, m_10, m_12, m_13, m_14, m_20, m_21, m_23, m_24, m_30, m_31, m_32, m_34, m_40, m_41, m_42, m_43, Int.reduceLE, Int.reduceLT, Int.reduceGE, Int.reduceGT, Int.reduceNeg, Int.reduceAdd, Int.reduceSub, Int.reduceMul, Int.reduceEq, Int.reduceNe, Nat.reduceAdd, jun2, ro_0_0, ro_0_1, ro_0_2, ro_0_3, ro_0_4, ro_0_5, ro_0_6, ro_0_7, ro_0_8, ro_0_9, ro_0_10, ro_0_11, ro_0_12, ro_1_0, ro_1_1, ro_2_0, ro_4_0, ro_6_0, ro_6_1, ro_6_2, ro_6_3, ro_6_4, ro_6_5, ro_6_6, ro_6_7, ro_6_8, ro_8_0, ro_10_0, ro_12_0, ro_14_0, ro_16_0, ro_18_0, ro_20_0, ro_22_0, ro_22_1, ro_22_2, ro_23_0, ro_25_0, ro_27_0, ro_29_0, ro_29_1, ro_29_2, ro_29_3, ro_29_4, ro_29_5, ro_29_6, ro_29_7, ro_29_8, ro_31_0, ro_33_0, ro_35_0, ro_37_0, ro_39_0, ro_41_0, ro_43_0, ro_45_0, ro_45_1, ro_45_2, ro_46_0, ro_48_0, ro_50_0, ro_52_0, ro_52_1, ro_52_2, ro_52_3, ro_53_0, ro_55_0, ro_57_0, ro_59_0, ro_61_0, ro_61_1, ro_61_2, ro_61_3, ro_62_0, ro_64_0, ro_66_0, ro_68_0, ro_70_0, ro_70_1, ro_70_2, ro_70_3, ro_70_4, ro_70_5, ro_70_6, ro_70_7, ro_70_8, ro_70_9, ro_71_0, ro_73_0, ro_75_0, ro_77_0, ro_79_0, ro_81_0, ro_83_0, ro_85_0, ro_87_0, ro_89_0, ro_91_0, ro_91_1, ro_91_2, ro_91_3, ro_91_4, ro_91_5, ro_91_6, ro_91_7, ro_91_8, ro_91_9, ro_92_0, ro_94_0, ro_96_0, ro_98_0, ro_100_0, ro_102_0, ro_104_0, ro_106_0, ro_108_0, ro_110_0, ro_112_0, ro_112_1, ro_112_2, ro_112_3, ro_112_4, ro_112_5, ro_112_6, ro_112_7, ro_112_8, ro_112_9, ro_113_0, ro_115_0, ro_117_0, ro_119_0, ro_121_0, ro_123_0, ro_125_0, ro_127_0, ro_129_0, ro_131_0, ro_133_0, ro_133_1, ro_133_2, ro_133_3, ro_133_4, ro_133_5, ro_133_6, ro_133_7, ro_133_8, ro_133_9, ro_134_0, ro_136_0, ro_138_0, ro_140_0, ro_142_0, ro_144_0, ro_146_0, ro_148_0, ro_150_0, ro_152_0, ro_154_0, ro_155_0, ro_157_0, ro_157_1, ro_157_2, ro_157_3, ro_157_4, ro_157_5, ro_157_6, ro_157_7, ro_157_8, ro_157_9, ro_158_0, ro_160_0, ro_162_0, ro_164_0, ro_166_0, ro_168_0, ro_170_0, ro_172_0, ro_174_0, ro_176_0, ro_178_0, ro_180_0, ro_182_1, ro_182_4, ro_182_5, ro_182_6, ro_182_9, ro_182_10, ro_182_11, ro_182_13, ro_182_14, ro_182_15, ro_182_16, ro_182_17, ro_182_20, ro_182_21, ro_182_22, ro_182_23, ro_182_24, ro_182_26, ro_182_27, ro_182_28, lo_3, lo_5, lo_7, lo_9, lo_11, lo_13, lo_15, lo_17, lo_19, lo_21, lo_24, lo_26, lo_28, lo_30, lo_32, lo_34, lo_36, lo_38, lo_40, lo_42, lo_44, lo_47, lo_49, lo_51, lo_54, lo_56, lo_58, lo_60, lo_63, lo_65, lo_67, lo_69, lo_72, lo_74, lo_76, lo_78, lo_80, lo_82, lo_84, lo_86, lo_88, lo_90, lo_93, lo_95, lo_97, lo_99, lo_101, lo_103, lo_105, lo_107, lo_109, lo_111, lo_114, lo_116, lo_118, lo_120, lo_122, lo_124, lo_126, lo_128, lo_130, lo_132, lo_135, lo_137, lo_139, lo_141, lo_143, lo_145, lo_147, lo_149, lo_151, lo_153, lo_156, lo_159, lo_161, lo_163, lo_165, lo_167, lo_169, lo_171, lo_173, lo_175, lo_177, lo_179, lo_181, lo_183, lo_184, lo_185, lo_186, lo_187, lo_188, lo_189, lo_190, lo_191, lo_192, lo_193, lo_194, lo_195, lo_196, lo_197, lo_198, lo_199, lo_200, lo_201, lo_202, lo_203, jp_nn, jp_eq, jp_e1, Classical.not_not, ji0, ji1, ji2, cs22_58, kk_58, cs22_80, kk_80, jl_0, jl_1, jl_2, jl_3, jl_4, jl_5, jl_6, jl_7, jl_8, jl_9, jl_10, jl_11, jl_12, jl_13, jl_14, jl_15, jl_16, jl_17, jl_18, jl_19, jl_20, jl_21, jl_22, jl_23, jl_24, jl_25, jl_26, jl_27, jl_28, jl_29, jl_30, jl_31, jl_32, jl_33, jl_34, jl_35, jl_36, jl_37, jl_38, jl_39, jl_40, jl_95, jl_96, jl_97, jl_98, jl_99, jl_100, jl_101, jl_102, jl_103, jl_104, jl_105, jl_106, jl_107, jl_108, jl_109, jl_110, jl_111, jl_112, jl_113, jl_114, jl_186, jl_1100, jr, ju, jpT, jpF, tnc, Nat.reduceEqDiff, reduceIte, and_false, false_and, not_true_eq_false, not_false_eq_true, or_false, gt_iff_lt, ge_iff_le, Int.lt_irrefl, Int.le_refl, y, y2]
      refine ⟨9, 32, 12, rfl, rfl, lo_9, lo_32, by decide, by decide, fun h2 f2_w g2 => ?_⟩
      refine ⟨11, 34, 4, rfl, rfl, lo_11, lo_34, by decide, by decide, fun h3 f3_w g3_w => ?_⟩
      refine ⟨13, 36, 4, rfl, rfl, lo_13, lo_36, by decide, by decide, fun h4 f4_w g4 => ?_⟩
      refine ⟨15, 38, 52, rfl, rfl, lo_15, lo_38, by decide, by decide, fun h5 f5_w g5_w => ?_⟩
      refine ⟨17, 40, 6, rfl, rfl, lo_17, lo_40, by decide, by decide, fun h6 f6_w g6 => ?_⟩
      refine ⟨19, 42, 6, rfl, rfl, lo_19, lo_42, by decide, by decide, fun h7 f7_w g7 => ?_⟩
      refine ⟨21, 44, 6, rfl, rfl, lo_21, lo_44, by decide, by decide, fun h8 f8_w g8 => ?_⟩
      intro h9 f9_w g9 g10
      have hb_w : ∀ o k : Nat, ¬ (o = 7 ∨ o = 9 ∨ o = 11 ∨ o = 13 ∨ o = 15 ∨ o = 17 ∨ o = 19 ∨ o = 21 ∨ o = 24 ∨ (o = 22 ∧ k = 3)) → h9 o k = h o k := fun o k z => by
        rw [f9_w o k (by omega), f8_w o k (by omega), f7_w o k (by omega), f6_w o k (by omega), f5_w o k (by omega), f4_w o k (by omega), f3_w o k (by omega), f2_w o k (by omega), z2 o k (by omega)]
      refine hQ _ (fun o k z => ?_) ⟨fun k a b => ?_, fun k z => ?_, fun k z => ?_, fun k z => ?_, fun k z => ?_, fun k z => ?_, fun k z => ?_, fun k z => ?_, fun k z => ?_, ?_, fun k z => ?_⟩
      · rw [ju, if_neg (by omega), ju, if_neg (by omega), ju, if_neg (by omega), ju, if_neg (by omega)]
        exact hb_w o k (by omega)
      · have e : ∀ k : Nat, h9 29 k = h 29 k := fun k => hb_w 29 k (by omega)
        have ek : k = 9 ∨ k = 10 ∨ k = 11 ∨ k = 12 := by omega
        rcases ek with rfl | rfl | rfl | rfl
        · exact e 9
        · exact e 10
        · exact e 11
        · exact e 12
      · rw [ju, if_neg (by omega), ju, if_neg (by omega), ju, if_neg (by omega), ju, if_neg (by omega), f9_w 7 k (by omega), f8_w 7 k (by omega), f7_w 7 k (by omega), f6_w 7 k (by omega), f5_w 7 k (by omega), f4_w 7 k (by omega), f3_w 7 k (by omega), f2_w 7 k (by omega), z3 k z]
      · rw [ju, if_neg (by omega), ju, if_neg (by omega), ju, if_neg (by omega), ju, if_neg (by omega), f9_w 9 k (by omega), f8_w 9 k (by omega), f7_w 9 k (by omega), f6_w 9 k (by omega), f5_w 9 k (by omega), f4_w 9 k (by omega), f3_w 9 k (by omega), g2 k z, z2 32 k (by omega)]
      · rw [ju, if_neg (by omega), ju, if_neg (by omega), ju, if_neg (by omega), ju, if_neg (by omega), f9_w 11 k (by omega), f8_w 11 k (by omega), f7_w 11 k (by omega), f6_w 11 k (by omega), f5_w 11 k (by omega), f4_w 11 k (by omega), g3_w k z, f2_w 34 k (by omega), z2 34 k (by omega)]
      · rw [ju, if_neg (by omega), ju, if_neg (by omega), ju, if_neg (by omega), ju, if_neg (by omega), f9_w 13 k (by omega), f8_w 13 k (by omega), f7_w 13 k (by omega), f6_w 13 k (by omega), f5_w 13 k (by omega), g4 k z, f3_w 36 k (by omega), f2_w 36 k (by omega), z2 36 k (by omega)]
      · rw [ju, if_neg (by omega), ju, if_neg (by omega), ju, if_neg (by omega), ju, if_neg (by omega), f9_w 15 k (by omega), f8_w 15 k (by omega), f7_w 15 k (by omega), f6_w 15 k (by omega), g5_w k z, f4_w 38 k (by omega), f3_w 38 k (by omega), f2_w 38 k (by omega), z2 38 k (by omega)]
      · rw [ju, if_neg (by omega), ju, if_neg (by omega), ju, if_neg (by omega), ju, if_neg (by omega), f9_w 17 k (by omega), f8_w 17 k (by omega), f7_w 17 k (by omega), g6 k z, f5_w 40 k (by omega), f4_w 40 k (by omega), f3_w 40 k (by omega), f2_w 40 k (by omega), z2 40 k (by omega)]
      · rw [ju, if_neg (by omega), ju, if_neg (by omega), ju, if_neg (by omega), ju, if_neg (by omega), f9_w 19 k (by omega), f8_w 19 k (by omega), g7 k z, f6_w 42 k (by omega), f5_w 42 k (by omega), f4_w 42 k (by omega), f3_w 42 k (by omega), f2_w 42 k (by omega), z2 42 k (by omega)]
      · rw [ju, if_neg (by omega), ju, if_neg (by omega), ju, if_neg (by omega), ju, if_neg (by omega), f9_w 21 k (by omega), g8 k z, f7_w 44 k (by omega), f6_w 44 k (by omega), f5_w 44 k (by omega), f4_w 44 k (by omega), f3_w 44 k (by omega), f2_w 44 k (by omega), z2 44 k (by omega)]
      · rw [ju, if_neg (by omega), ju, if_neg (by omega), ju, if_neg (by omega), ju, if_neg (by omega), g9, f8_w 45 3 (by omega), f7_w 45 3 (by omega), f6_w 45 3 (by omega), f5_w 45 3 (by omega), f4_w 45 3 (by omega), f3_w 45 3 (by omega), f2_w 45 3 (by omega), z2 45 3 (by omega)]
      · rw [ju, if_neg (by omega), ju, if_neg (by omega), ju, if_neg (by omega), ju, if_neg (by omega), g10 k z, f8_w 47 k (by omega), f7_w 47 k (by omega), f6_w 47 k (by omega), f5_w 47 k (by omega), f4_w 47 k (by omega), f3_w 47 k (by omega), f2_w 47 k (by omega), z2 47 k (by omega)]
  · exact hQ.elim
theorem snd_22 {xs : Nat → Int} {L K : Nat} : ∀ n, SndC CS22 (evF xs L g_ck K g_cW g_M n) := snd_all snd_19 (fun f av h Q hQ => by
  unfold CS22 at hQ
  split at hQ
  · exact Or.inr m_58
  · exact Or.inr m_80
  · exact Or.inr m_97s
  · exact Or.inl hQ)
section CPP
variable {h h' : XH} {D : DD}
/-- what a plan holds_w, the law_w only where there_w is_w a class -/
def CDw (p : Nat) (D : DD) (h : XH) : Prop := CN p D h ∧ (h p 9 = D.1 ∧ 0 ≤ D.1 ∧ D.1 ≤ 12) ∧ (∀ s, s < 12 → h (p + 3) s = (D.2.1.getD []).getD s 0) ∧ CLD p D.2.2.1 h ∧ CMD p D.2.2.2.2.1 h ∧ (D.2.2.1 ≠ [] → LCD p D.2.2.2.2.2 h)
theorem CpP.cd (c : CpP h h') (a : CD 29 D h) : CDw 6 D h' := by
  obtain ⟨p0, p1_w, p2_w, p3_w, p4_w, p5_w, p6_w, p7_w, p8_w, p9_w, p10⟩ := c
  obtain ⟨⟨⟨c1_w, c2, c3, l1, l2, l3⟩, r1_w, r2, r3, nd⟩, d1_w, d2_w, d3_w, d4_w, d5⟩ := a
  have lm := lenM (D := D)
  refine ⟨⟨⟨(p0 10 (by decide) (by decide)).trans c1_w, (p0 11 (by decide) (by decide)).trans c2, (p0 12 (by decide) (by decide)).trans c3, l1, l2, l3⟩, fun k v z => ?_, fun k v z => ?_, fun k v z => ?_, nd⟩, ⟨(p0 9 (by decide) (by decide)).trans d1_w.1, d1_w.2⟩, fun s z => (p2_w s z).trans (d2_w s z), fun n x z => ?_, ⟨fun n x z => ?_, fun n z => (p4_w n z).trans (d4_w.2 n z)⟩, fun _ => ⟨p9_w.trans d5.1, fun k v z => ?_, d5.2.2⟩⟩
  · have := lt_of_some z
    exact ⟨(p1_w _ (by omega)).trans (r1_w k v z).1, (r1_w k v z).2⟩
  · have := lt_of_some z
    exact ⟨(p1_w _ (by omega)).trans (r2 k v z).1, (r2 k v z).2⟩
  · have := lt_of_some z
    exact ⟨(p1_w _ (by omega)).trans (r3 k v z).1, (r3 k v z).2⟩
  · have hn := lt_of_some z
    obtain ⟨a1_w, a2, a3, a4⟩ := d3_w n x z
    exact ⟨(p3_w _ (by omega)).trans a1_w, a2, a3, fun k y => (p5_w _ (by omega)).trans (a4 k y)⟩
  · have hn := lt_of_some z
    obtain ⟨a1_w, a2, a3⟩ := d4_w.1 n x z
    exact ⟨(p6_w _ (by omega)).trans a1_w, (p7_w _ (by omega)).trans a2, (p8_w _ (by omega)).trans a3⟩
  · have hk := lt_of_some z
    have := d5.2.2
    exact (p10 _ (by omega)).trans (d5.2.1 k v z)
end CPP
end
section
/-! ===== contracts: a ledger begins, the class's grid with what it leaves ===== -/
def isLb (b : Nat) : Prop := b = 70 ∨ b = 91
def k156 : KT := fun av h Q => match av with
  | [o, m, s, f] => ∃ b mn_w fn_w : Nat, isLb b ∧ o = (b : Int) ∧ m = (mn_w : Int) ∧ mn_w < 6 ∧ f = (fn_w : Int) ∧ fn_w ≤ 12 ∧ ∀ h' : XH, (∀ x k : Nat, x ≠ b + 4 → h' x k = h x k) → (∀ k : Nat, h' (b + 4) k = if 12 * mn_w + fn_w ≤ k ∧ k < 12 * mn_w + 12 then s else h (b + 4) k) → Q 1 [] h'
  | _ => False
/-- a ledger as_w it begins -/
def LB (b : Nat) (D : DD) (h h' : XH) : Prop := (∀ k : Nat, k < 78 → h' (b + 2) k = -1) ∧ (∀ m x, D.2.2.2.2.1[m]? = some x → ∀ s : Nat, s < 12 → h' (b + 4) (12 * m + s) = x.2.2.2) ∧ (∀ s : Nat, s < 12 → h' (b + 6) s = h 9 s) ∧ h' b 10 = 0 ∧ h' b 11 = 0
def k142 : KT := fun av h Q => match av with
  | [o, p] => p = 6 ∧ ∃ (b : Nat) (D : DD), isLb b ∧ o = (b : Int) ∧ CDw 6 D h ∧ ∀ h' : XH, (∀ x k : Nat, ¬ (x = b + 2 ∨ x = b + 4 ∨ x = b + 6 ∨ (x = b ∧ 10 ≤ k)) → h' x k = h x k) → LB b D h h' → Q 1 [] h'
  | _ => False
/-- only what begins anew_w is_w changed -/
def FB (h h' : XH) : Prop := ∀ x k : Nat, ¬ (x = 72 ∨ x = 74 ∨ x = 76 ∨ (x = 70 ∧ 10 ≤ k) ∨ (x = 52 ∧ k = 4) ∨ (x = 154 ∧ k = 1) ∨ (x = 0 ∧ 13 ≤ k)) → h' x k = h x k
/-- the class as_w a grid leaves it -/
def BGN (D : DD) (h' : XH) : Prop := LB 70 D h' h' ∧ h' 52 4 = 0 ∧ h' 154 1 = 0 ∧ h' 0 13 = 0 ∧ h' 0 14 = 0 ∧ h' 0 15 = 0
def k3s : KT := fun av h Q => match av with
  | [o] => o = 0 ∧ ∃ D : DD, CDw 6 D h ∧ ∀ h' : XH, FB h h' → BGN D h' → Q 1 [] h'
  | _ => False
/-- what a grid may_w change -/
def FG (h h' : XH) : Prop := ∀ o k : Nat, (o = 3 ∨ 182 ≤ o) → h' o k = h o k
def k2s : KT := fun av h Q => match av with
  | [o] => o = 0 ∧ ∃ (T : TA), T.2.1 ≤ 1000 ∧ BYT T.1 h ∧ TOK (h 3) T.1 T.2.1 (tS T) (tP T) (tV T) ∧ TGd T ∧ (∀ f, sGrid (tS T) (tP T) (tV T) wl 1001 DD0 0 = .error f → f ≠ 0) ∧ (∀ f h', sGrid (tS T) (tP T) (tV T) wl 1001 DD0 0 = .error f → (∀ o k : Nat, 3 ≤ o → ¬ (29 ≤ o ∧ o ≤ 51) → o ≠ 5 → h' o k = h o k) → (∀ k : Nat, h' 0 k = h 0 k) → h' 2 1 = 0 → Q 1 [f] h') ∧ (∀ D h', sGrid (tS T) (tP T) (tV T) wl 1001 DD0 0 = .ok D → FG h h' → h' 2 1 = 0 → CDw 6 D h' → BGN D h' → Q 1 [0] h')
  | _ => False
def k61z : KT := fun av h Q => match av with
  | [o] => Q 1 [] (j_up h o.toNat 1 0)
  | _ => False
section KKF3
variable {h h1 h2 h' : XH} {Q : Nat → List Int → XH → Prop} {o p m s f : Int} {D : DD}
theorem kk_156 : k156 [o, m, s, f] h Q = ∃ b mn_w fn_w : Nat, isLb b ∧ o = (b : Int) ∧ m = (mn_w : Int) ∧ mn_w < 6 ∧ f = (fn_w : Int) ∧ fn_w ≤ 12 ∧ ∀ h' : XH, (∀ x k : Nat, x ≠ b + 4 → h' x k = h x k) → (∀ k : Nat, h' (b + 4) k = if 12 * mn_w + fn_w ≤ k ∧ k < 12 * mn_w + 12 then s else h (b + 4) k) → Q 1 [] h' := id rfl
theorem kk_142 : k142 [o, 6] h Q = ∃ (b : Nat) (D : DD), isLb b ∧ o = (b : Int) ∧ CDw 6 D h ∧ ∀ h' : XH, (∀ x k : Nat, ¬ (x = b + 2 ∨ x = b + 4 ∨ x = b + 6 ∨ (x = b ∧ 10 ≤ k)) → h' x k = h x k) → LB b D h h' → Q 1 [] h' := propext ⟨fun a => a.2, fun a => ⟨rfl, a⟩⟩
theorem kk_3s : k3s [0] h Q = ∃ D : DD, CDw 6 D h ∧ ∀ h' : XH, FB h h' → BGN D h' → Q 1 [] h' := propext ⟨fun a => a.2, fun a => ⟨rfl, a⟩⟩
theorem kk_61z : k61z [o] h Q = Q 1 [] (j_up h o.toNat 1 0) := id rfl
theorem kk_2s : k2s [0] h Q = ∃ (T : TA), T.2.1 ≤ 1000 ∧ BYT T.1 h ∧ TOK (h 3) T.1 T.2.1 (tS T) (tP T) (tV T) ∧ TGd T ∧ (∀ f, sGrid (tS T) (tP T) (tV T) wl 1001 DD0 0 = .error f → f ≠ 0) ∧ (∀ f h', sGrid (tS T) (tP T) (tV T) wl 1001 DD0 0 = .error f → (∀ o k : Nat, 3 ≤ o → ¬ (29 ≤ o ∧ o ≤ 51) → o ≠ 5 → h' o k = h o k) → (∀ k : Nat, h' 0 k = h 0 k) → h' 2 1 = 0 → Q 1 [f] h') ∧ (∀ D h', sGrid (tS T) (tP T) (tV T) wl 1001 DD0 0 = .ok D → FG h h' → h' 2 1 = 0 → CDw 6 D h' → BGN D h' → Q 1 [0] h') := propext ⟨fun a => a.2, fun a => ⟨rfl, a⟩⟩
theorem CDw.fr (c : CDw 6 D h) (f : ∀ o k : Nat, 6 ≤ o → o ≤ 24 → h' o k = h o k) : CDw 6 D h' := by
  obtain ⟨⟨⟨c1_w, c2, c3, l1, l2, l3⟩, r1_w, r2, r3, nd⟩, d1_w, d2_w, d3_w, d4_w, d5⟩ := c
  refine ⟨⟨⟨(f _ _ (by omega) (by omega)).trans c1_w, (f _ _ (by omega) (by omega)).trans c2, (f _ _ (by omega) (by omega)).trans c3, l1, l2, l3⟩, fun k v z => ⟨(f _ _ (by omega) (by omega)).trans (r1_w k v z).1, (r1_w k v z).2⟩, fun k v z => ⟨(f _ _ (by omega) (by omega)).trans (r2 k v z).1, (r2 k v z).2⟩, fun k v z => ⟨(f _ _ (by omega) (by omega)).trans (r3 k v z).1, (r3 k v z).2⟩, nd⟩, ⟨(f _ _ (by omega) (by omega)).trans d1_w.1, d1_w.2⟩, fun s z => (f _ _ (by omega) (by omega)).trans (d2_w s z), fun n x z => ?_, ⟨fun n x z => ?_, fun n z => (f _ _ (by omega) (by omega)).trans (d4_w.2 n z)⟩, fun y => ⟨(f _ _ (by omega) (by omega)).trans (d5 y).1, fun k v z => (f _ _ (by omega) (by omega)).trans ((d5 y).2.1 k v z), (d5 y).2.2⟩⟩
  · obtain ⟨a1_w, a2, a3, a4⟩ := d3_w n x z
    exact ⟨(f _ _ (by omega) (by omega)).trans a1_w, a2, a3, fun k y => (f _ _ (by omega) (by omega)).trans (a4 k y)⟩
  · obtain ⟨a1_w, a2, a3⟩ := d4_w.1 n x z
    exact ⟨(f _ _ (by omega) (by omega)).trans a1_w, (f _ _ (by omega) (by omega)).trans a2, (f _ _ (by omega) (by omega)).trans a3⟩
end KKF3
def CS23 : CSt := fun f => match f with
  | 156 => k156
  | 142 => k142
  | 3 => k3s
  | 61 => k61z
  | 2 => k2s
  | _ => CS22 f
theorem cs23_54 {av : List Int} {h : XH} {Q : Nat → List Int → XH → Prop} : CS23 54 av h Q = k54 av h Q := id rfl
theorem cs23_55 {av : List Int} {h : XH} {Q : Nat → List Int → XH → Prop} : CS23 55 av h Q = k55 av h Q := id rfl
theorem cs23_68 {av : List Int} {h : XH} {Q : Nat → List Int → XH → Prop} : CS23 68 av h Q = k68 av h Q := id rfl
theorem cs23_69 {av : List Int} {h : XH} {Q : Nat → List Int → XH → Prop} : CS23 69 av h Q = k69 av h Q := id rfl
theorem cs23_70 {av : List Int} {h : XH} {Q : Nat → List Int → XH → Prop} : CS23 70 av h Q = k70 av h Q := id rfl
theorem cs23_71 {av : List Int} {h : XH} {Q : Nat → List Int → XH → Prop} : CS23 71 av h Q = k71 av h Q := id rfl
theorem cs23_72 {av : List Int} {h : XH} {Q : Nat → List Int → XH → Prop} : CS23 72 av h Q = k72 av h Q := id rfl
theorem cs23_73 {av : List Int} {h : XH} {Q : Nat → List Int → XH → Prop} : CS23 73 av h Q = k73 av h Q := id rfl
theorem cs23_74 {av : List Int} {h : XH} {Q : Nat → List Int → XH → Prop} : CS23 74 av h Q = k74 av h Q := id rfl
theorem cs23_75 {av : List Int} {h : XH} {Q : Nat → List Int → XH → Prop} : CS23 75 av h Q = k75 av h Q := id rfl
theorem cs23_186 {av : List Int} {h : XH} {Q : Nat → List Int → XH → Prop} : CS23 186 av h Q = k186 av h Q := id rfl
theorem cs23_187 {av : List Int} {h : XH} {Q : Nat → List Int → XH → Prop} : CS23 187 av h Q = k187 av h Q := id rfl
theorem cs23_188 {av : List Int} {h : XH} {Q : Nat → List Int → XH → Prop} : CS23 188 av h Q = k188 av h Q := id rfl
theorem cs23_189 {av : List Int} {h : XH} {Q : Nat → List Int → XH → Prop} : CS23 189 av h Q = k189 av h Q := id rfl
theorem cs23_191 {av : List Int} {h : XH} {Q : Nat → List Int → XH → Prop} : CS23 191 av h Q = k191 av h Q := id rfl
theorem cs23_192 {av : List Int} {h : XH} {Q : Nat → List Int → XH → Prop} : CS23 192 av h Q = k192 av h Q := id rfl
theorem cs23_193 {av : List Int} {h : XH} {Q : Nat → List Int → XH → Prop} : CS23 193 av h Q = k193 av h Q := id rfl
theorem cs23_198 {av : List Int} {h : XH} {Q : Nat → List Int → XH → Prop} : CS23 198 av h Q = k198 av h Q := id rfl
theorem cs23_207 {av : List Int} {h : XH} {Q : Nat → List Int → XH → Prop} : CS23 207 av h Q = k207 av h Q := id rfl
theorem cs23_195 {av : List Int} {h : XH} {Q : Nat → List Int → XH → Prop} : CS23 195 av h Q = k195 av h Q := id rfl
theorem cs23_196 {av : List Int} {h : XH} {Q : Nat → List Int → XH → Prop} : CS23 196 av h Q = k196 av h Q := id rfl
theorem cs23_201 {av : List Int} {h : XH} {Q : Nat → List Int → XH → Prop} : CS23 201 av h Q = k201 av h Q := id rfl
theorem cs23_203 {av : List Int} {h : XH} {Q : Nat → List Int → XH → Prop} : CS23 203 av h Q = k203 av h Q := id rfl
theorem cs23_204 {av : List Int} {h : XH} {Q : Nat → List Int → XH → Prop} : CS23 204 av h Q = k204 av h Q := id rfl
theorem cs23_194 {av : List Int} {h : XH} {Q : Nat → List Int → XH → Prop} : CS23 194 av h Q = k194 av h Q := id rfl
theorem cs23_197 {av : List Int} {h : XH} {Q : Nat → List Int → XH → Prop} : CS23 197 av h Q = k197 av h Q := id rfl
theorem cs23_200 {av : List Int} {h : XH} {Q : Nat → List Int → XH → Prop} : CS23 200 av h Q = k200 av h Q := id rfl
theorem cs23_202 {av : List Int} {h : XH} {Q : Nat → List Int → XH → Prop} : CS23 202 av h Q = k202 av h Q := id rfl
theorem cs23_205 {av : List Int} {h : XH} {Q : Nat → List Int → XH → Prop} : CS23 205 av h Q = k205 av h Q := id rfl
theorem cs23_208 {av : List Int} {h : XH} {Q : Nat → List Int → XH → Prop} : CS23 208 av h Q = k208 av h Q := id rfl
theorem cs23_209 {av : List Int} {h : XH} {Q : Nat → List Int → XH → Prop} : CS23 209 av h Q = k209 av h Q := id rfl
theorem cs23_211 {av : List Int} {h : XH} {Q : Nat → List Int → XH → Prop} : CS23 211 av h Q = k211 av h Q := id rfl
theorem cs23_216 {av : List Int} {h : XH} {Q : Nat → List Int → XH → Prop} : CS23 216 av h Q = k216 av h Q := id rfl
theorem cs23_217 {av : List Int} {h : XH} {Q : Nat → List Int → XH → Prop} : CS23 217 av h Q = k217 av h Q := id rfl
theorem cs23_218 {av : List Int} {h : XH} {Q : Nat → List Int → XH → Prop} : CS23 218 av h Q = k218 av h Q := id rfl
theorem cs23_219 {av : List Int} {h : XH} {Q : Nat → List Int → XH → Prop} : CS23 219 av h Q = k219 av h Q := id rfl
theorem cs23_220 {av : List Int} {h : XH} {Q : Nat → List Int → XH → Prop} : CS23 220 av h Q = k220 av h Q := id rfl
theorem cs23_221 {av : List Int} {h : XH} {Q : Nat → List Int → XH → Prop} : CS23 221 av h Q = k221 av h Q := id rfl
theorem cs23_210 {av : List Int} {h : XH} {Q : Nat → List Int → XH → Prop} : CS23 210 av h Q = k210 av h Q := id rfl
theorem cs23_212 {av : List Int} {h : XH} {Q : Nat → List Int → XH → Prop} : CS23 212 av h Q = k212 av h Q := id rfl
theorem cs23_213 {av : List Int} {h : XH} {Q : Nat → List Int → XH → Prop} : CS23 213 av h Q = k213 av h Q := id rfl
theorem cs23_190 {av : List Int} {h : XH} {Q : Nat → List Int → XH → Prop} : CS23 190 av h Q = k190 av h Q := id rfl
theorem cs23_199 {av : List Int} {h : XH} {Q : Nat → List Int → XH → Prop} : CS23 199 av h Q = k199 av h Q := id rfl
theorem cs23_225 {av : List Int} {h : XH} {Q : Nat → List Int → XH → Prop} : CS23 225 av h Q = k225 av h Q := id rfl
theorem cs23_226 {av : List Int} {h : XH} {Q : Nat → List Int → XH → Prop} : CS23 226 av h Q = k226 av h Q := id rfl
theorem cs23_227 {av : List Int} {h : XH} {Q : Nat → List Int → XH → Prop} : CS23 227 av h Q = k227 av h Q := id rfl
theorem cs23_228 {av : List Int} {h : XH} {Q : Nat → List Int → XH → Prop} : CS23 228 av h Q = k228 av h Q := id rfl
theorem cs23_240 {av : List Int} {h : XH} {Q : Nat → List Int → XH → Prop} : CS23 240 av h Q = k240 av h Q := id rfl
theorem cs23_241 {av : List Int} {h : XH} {Q : Nat → List Int → XH → Prop} : CS23 241 av h Q = k241 av h Q := id rfl
theorem cs23_206 {av : List Int} {h : XH} {Q : Nat → List Int → XH → Prop} : CS23 206 av h Q = k206 av h Q := id rfl
theorem cs23_333 {av : List Int} {h : XH} {Q : Nat → List Int → XH → Prop} : CS23 333 av h Q = k333 av h Q := id rfl
theorem cs23_67 {av : List Int} {h : XH} {Q : Nat → List Int → XH → Prop} : CS23 67 av h Q = k67 av h Q := id rfl
theorem cs23_65 {av : List Int} {h : XH} {Q : Nat → List Int → XH → Prop} : CS23 65 av h Q = k65 av h Q := id rfl
theorem cs23_66 {av : List Int} {h : XH} {Q : Nat → List Int → XH → Prop} : CS23 66 av h Q = k66 av h Q := id rfl
theorem cs23_64 {av : List Int} {h : XH} {Q : Nat → List Int → XH → Prop} : CS23 64 av h Q = k64 av h Q := id rfl
theorem cs23_63 {av : List Int} {h : XH} {Q : Nat → List Int → XH → Prop} : CS23 63 av h Q = k63 av h Q := id rfl
theorem cs23_77 {av : List Int} {h : XH} {Q : Nat → List Int → XH → Prop} : CS23 77 av h Q = k77 av h Q := id rfl
theorem cs23_76 {av : List Int} {h : XH} {Q : Nat → List Int → XH → Prop} : CS23 76 av h Q = k76 av h Q := id rfl
theorem cs23_133 {av : List Int} {h : XH} {Q : Nat → List Int → XH → Prop} : CS23 133 av h Q = k133 av h Q := id rfl
theorem cs23_134 {av : List Int} {h : XH} {Q : Nat → List Int → XH → Prop} : CS23 134 av h Q = k134 av h Q := id rfl
theorem cs23_135 {av : List Int} {h : XH} {Q : Nat → List Int → XH → Prop} : CS23 135 av h Q = k135 av h Q := id rfl
theorem cs23_136 {av : List Int} {h : XH} {Q : Nat → List Int → XH → Prop} : CS23 136 av h Q = k136 av h Q := id rfl
theorem cs23_138 {av : List Int} {h : XH} {Q : Nat → List Int → XH → Prop} : CS23 138 av h Q = k138 av h Q := id rfl
theorem cs23_139 {av : List Int} {h : XH} {Q : Nat → List Int → XH → Prop} : CS23 139 av h Q = k139 av h Q := id rfl
theorem cs23_105 {av : List Int} {h : XH} {Q : Nat → List Int → XH → Prop} : CS23 105 av h Q = k105 av h Q := id rfl
theorem cs23_102 {av : List Int} {h : XH} {Q : Nat → List Int → XH → Prop} : CS23 102 av h Q = k102 av h Q := id rfl
theorem cs23_103 {av : List Int} {h : XH} {Q : Nat → List Int → XH → Prop} : CS23 103 av h Q = k103 av h Q := id rfl
theorem cs23_104 {av : List Int} {h : XH} {Q : Nat → List Int → XH → Prop} : CS23 104 av h Q = k104 av h Q := id rfl
theorem cs23_106 {av : List Int} {h : XH} {Q : Nat → List Int → XH → Prop} : CS23 106 av h Q = k106 av h Q := id rfl
theorem cs23_140 {av : List Int} {h : XH} {Q : Nat → List Int → XH → Prop} : CS23 140 av h Q = k140 av h Q := id rfl
theorem cs23_137 {av : List Int} {h : XH} {Q : Nat → List Int → XH → Prop} : CS23 137 av h Q = k137 av h Q := id rfl
theorem cs23_127 {av : List Int} {h : XH} {Q : Nat → List Int → XH → Prop} : CS23 127 av h Q = k127 av h Q := id rfl
theorem cs23_56 {av : List Int} {h : XH} {Q : Nat → List Int → XH → Prop} : CS23 56 av h Q = k56 av h Q := id rfl
theorem cs23_57 {av : List Int} {h : XH} {Q : Nat → List Int → XH → Prop} : CS23 57 av h Q = k57 av h Q := id rfl
theorem cs23_79 {av : List Int} {h : XH} {Q : Nat → List Int → XH → Prop} : CS23 79 av h Q = k79 av h Q := id rfl
theorem cs23_101 {av : List Int} {h : XH} {Q : Nat → List Int → XH → Prop} : CS23 101 av h Q = k101 av h Q := id rfl
theorem cs23_96 {av : List Int} {h : XH} {Q : Nat → List Int → XH → Prop} : CS23 96 av h Q = k96 av h Q := id rfl
theorem cs23_99 {av : List Int} {h : XH} {Q : Nat → List Int → XH → Prop} : CS23 99 av h Q = k99c av h Q := id rfl
theorem cs23_100 {av : List Int} {h : XH} {Q : Nat → List Int → XH → Prop} : CS23 100 av h Q = k100 av h Q := id rfl
theorem cs23_98 {av : List Int} {h : XH} {Q : Nat → List Int → XH → Prop} : CS23 98 av h Q = k98 av h Q := id rfl
theorem cs23_122 {av : List Int} {h : XH} {Q : Nat → List Int → XH → Prop} : CS23 122 av h Q = k122 av h Q := id rfl
theorem cs23_123 {av : List Int} {h : XH} {Q : Nat → List Int → XH → Prop} : CS23 123 av h Q = k123 av h Q := id rfl
theorem cs23_124 {av : List Int} {h : XH} {Q : Nat → List Int → XH → Prop} : CS23 124 av h Q = k124 av h Q := id rfl
theorem cs23_125 {av : List Int} {h : XH} {Q : Nat → List Int → XH → Prop} : CS23 125 av h Q = k125 av h Q := id rfl
theorem cs23_126 {av : List Int} {h : XH} {Q : Nat → List Int → XH → Prop} : CS23 126 av h Q = k126 av h Q := id rfl
theorem cs23_84 {av : List Int} {h : XH} {Q : Nat → List Int → XH → Prop} : CS23 84 av h Q = k84 av h Q := id rfl
theorem cs23_82 {av : List Int} {h : XH} {Q : Nat → List Int → XH → Prop} : CS23 82 av h Q = k82 av h Q := id rfl
theorem cs23_83 {av : List Int} {h : XH} {Q : Nat → List Int → XH → Prop} : CS23 83 av h Q = k83 av h Q := id rfl
theorem cs23_85 {av : List Int} {h : XH} {Q : Nat → List Int → XH → Prop} : CS23 85 av h Q = k85 av h Q := id rfl
theorem cs23_89 {av : List Int} {h : XH} {Q : Nat → List Int → XH → Prop} : CS23 89 av h Q = k89 av h Q := id rfl
theorem cs23_90 {av : List Int} {h : XH} {Q : Nat → List Int → XH → Prop} : CS23 90 av h Q = k90 av h Q := id rfl
theorem cs23_91 {av : List Int} {h : XH} {Q : Nat → List Int → XH → Prop} : CS23 91 av h Q = k91 av h Q := id rfl
theorem cs23_88 {av : List Int} {h : XH} {Q : Nat → List Int → XH → Prop} : CS23 88 av h Q = k88 av h Q := id rfl
theorem cs23_86 {av : List Int} {h : XH} {Q : Nat → List Int → XH → Prop} : CS23 86 av h Q = k86 av h Q := id rfl
theorem cs23_87 {av : List Int} {h : XH} {Q : Nat → List Int → XH → Prop} : CS23 87 av h Q = k87 av h Q := id rfl
theorem cs23_81 {av : List Int} {h : XH} {Q : Nat → List Int → XH → Prop} : CS23 81 av h Q = k81 av h Q := id rfl
theorem cs23_128 {av : List Int} {h : XH} {Q : Nat → List Int → XH → Prop} : CS23 128 av h Q = k128 av h Q := id rfl
theorem cs23_119 {av : List Int} {h : XH} {Q : Nat → List Int → XH → Prop} : CS23 119 av h Q = k119 av h Q := id rfl
theorem cs23_58 {av : List Int} {h : XH} {Q : Nat → List Int → XH → Prop} : CS23 58 av h Q = k58 av h Q := id rfl
theorem cs23_80 {av : List Int} {h : XH} {Q : Nat → List Int → XH → Prop} : CS23 80 av h Q = k80 av h Q := id rfl
theorem cs23_97 {av : List Int} {h : XH} {Q : Nat → List Int → XH → Prop} : CS23 97 av h Q = k97s av h Q := id rfl
theorem cs23_156 {av : List Int} {h : XH} {Q : Nat → List Int → XH → Prop} : CS23 156 av h Q = k156 av h Q := id rfl
theorem cs23_142 {av : List Int} {h : XH} {Q : Nat → List Int → XH → Prop} : CS23 142 av h Q = k142 av h Q := id rfl
theorem cs23_3 {av : List Int} {h : XH} {Q : Nat → List Int → XH → Prop} : CS23 3 av h Q = k3s av h Q := id rfl
theorem cs23_61 {av : List Int} {h : XH} {Q : Nat → List Int → XH → Prop} : CS23 61 av h Q = k61z av h Q := id rfl
theorem cs23_2 {av : List Int} {h : XH} {Q : Nat → List Int → XH → Prop} : CS23 2 av h Q = k2s av h Q := id rfl
theorem m_156 : BodyOK CS23 CS23 156 := fun av h Q hQ => by
  rw [cs23_156] at hQ
  unfold k156 at hQ
  split at hQ
  · rename_i o m s f
    obtain ⟨b, mn_w, fn_w, hb_w, rfl, rfl, hm_w, rfl, hf, hQ⟩ := hQ
    show pS CS23 bb_156 [(b : Int), (mn_w : Int), s, (fn_w : Int), 0] h _
    unfold bb_156
    have em : j32 ((mn_w : Int) * 12) = ((12 * mn_w : Nat) : Int) := by
      rw [j32_id (by omega) (by omega)]
      omega
    rcases hb_w with rfl | rfl
    · simp only [qe_1, qe_3, qe_4, qe_5, qe_7, qe_72, qe_10, qe_102, qe_13, qe_14, qe_15, qe_16, qe_17, qe_18, qe_20, qe_22, qe_23, qe_21, qe_24, qe_25, qe_26, qe_27, qe_28, qe_30, qe_31, qe_32, qc_20, qc_22, qc_23, qc_21, qc_24, qc_25, qc_26, qc_27, qc_1, qc_3, qc_4, qc_7, qc_13, qc_28, qc_32, qs_1, qs_2, qs_3, qs_4, qs_5, qs_6, qs_9, qs_10, qs_11, qs_14, qs_15, qs_16, qs_27, qs_17, qs_18, qs_19, qs_20, qs_22, qs_23, qs_28, qs_25, qs_26, qs_7, qs_8, kc_1, kn_1, kc_2, kn_2, kc_3, kn_3, kc_4, kn_4, kc_5, kn_5, kc_6, kn_6, kc_7, kn_7, kc_8, kn_8, kc_9, kn_9, kc_10, kn_10, kc_11, kn_11, kc_12, kn_12, kc_13, kn_13, kc_14, kn_14, kc_15, kn_15, kc_16, kc_17, kc_18, kc_19, kc_20, kc_21, kc_22, kc_23, kc_30, kc_32, kc_40, kc_43, kc_45, kc_48, kc_52, kc_56, kc_57, kc_59, kc_60, kc_61, kc_63, kc_64, kc_72, kc_78, kc_97, kc_99, kc_122, kc_126, kc_128, kc_192, kc_200, kc_255, kc_999, kc_1000, kc_9999, kn_9999, kc_10000, kc_12345, kc_65536, kc_252645135, kc_858993459, kc_1103515245, kc_1431655765, kc_2147483647, kc_0, kc_24, kc_28, kc_37, kc_41, kc_42, kc_73, kc_91, kc_95, kc_96, kc_98, kc_100, kc_112, kc_125, kc_150, kc_162, kc_163, kc_168, kc_186, kc_190, kc_250, kc_355, kc_356, kc_404, kc_405, kc_429, kc_573, kc_1002, kc_1100, kc_1891, kc_2200, kc_4719, kc_4869, kc_4881, kc_5148, kc_19741, kc_25433, kc_320403, kc_628412, kc_629093, kc_660401, kc_679843, kc_918640, kc_979410, kc_1178088, kc_6232410, kc_24644941, kc_36238189, kc_38270444, kc_392531318, kc_425693491, kc_1342154595, kc_2147483648, kc_42328242873, kc_891704255789, kc_1722105685577, kc_1858726030364, ct_0, ct_1, ct_2, ct_3, ct_4, ct_5, cf_0, cf_1, cf_2, cf_3, cf_4, cf_5, w_ty6, w_ty7, m_sv, m_z0, m_hd, m_g0, m_gs, m_s0, m_ss, m_ap, m_an, forall_const, true_and, and_true, ne_eq, not_true_eq_false, not_false_eq_true, false_implies, true_implies, implies_true, eq_self, reduceCtorEq, Nat.reduceDiv, Nat.reduceMod, Int.reduceToNat, or_true, true_or, or_false, false_or, or_self, m_it, m_if, m_c1, m_01, m_02, m_03, m_04, m_10, m_12, m_13, m_14, m_20, m_21, m_23, m_24, m_30, m_31, m_32, m_34, m_40, m_41, m_42, m_43, Int.reduceLE, Int.reduceLT, Int.reduceGE, Int.reduceGT, Int.reduceNeg, Int.reduceAdd, Int.reduceSub, Int.reduceMul, Int.reduceEq, Int.reduceNe, Nat.reduceAdd, jun2, ro_0_0, ro_0_1, ro_0_2, ro_0_3, ro_0_4, ro_0_5, ro_0_6, ro_0_7, ro_0_8, ro_0_9, ro_0_10, ro_0_11, ro_0_12, ro_1_0, ro_1_1, ro_2_0, ro_4_0, ro_6_0, ro_6_1, ro_6_2, ro_6_3, ro_6_4, ro_6_5, ro_6_6, ro_6_7, ro_6_8, ro_8_0, ro_10_0, ro_12_0, ro_14_0, ro_16_0, ro_18_0, ro_20_0, ro_22_0, ro_22_1, ro_22_2, ro_23_0, ro_25_0, ro_27_0, ro_29_0, ro_29_1, ro_29_2, ro_29_3, ro_29_4, ro_29_5, ro_29_6, ro_29_7, ro_29_8, ro_31_0, ro_33_0, ro_35_0, ro_37_0, ro_39_0, ro_41_0, ro_43_0, ro_45_0, ro_45_1, ro_45_2, ro_46_0, ro_48_0, ro_50_0, ro_52_0, ro_52_1, ro_52_2, ro_52_3, ro_53_0, ro_55_0, ro_57_0, ro_59_0, ro_61_0, ro_61_1, ro_61_2, ro_61_3, ro_62_0, ro_64_0, ro_66_0, ro_68_0, ro_70_0, ro_70_1, ro_70_2, ro_70_3, ro_70_4, ro_70_5, ro_70_6, ro_70_7, ro_70_8, ro_70_9, ro_71_0, ro_73_0, ro_75_0, ro_77_0, ro_79_0, ro_81_0, ro_83_0, ro_85_0, ro_87_0, ro_89_0, ro_91_0, ro_91_1, ro_91_2, ro_91_3, ro_91_4, ro_91_5, ro_91_6, ro_91_7, ro_91_8, ro_91_9, ro_92_0, ro_94_0, ro_96_0, ro_98_0, ro_100_0, ro_102_0, ro_104_0, ro_106_0, ro_108_0, ro_110_0, ro_112_0, ro_112_1, ro_112_2, ro_112_3, ro_112_4, ro_112_5, ro_112_6, ro_112_7, ro_112_8, ro_112_9, ro_113_0, ro_115_0, ro_117_0, ro_119_0, ro_121_0, ro_123_0, ro_125_0, ro_127_0, ro_129_0, ro_131_0, ro_133_0, ro_133_1, ro_133_2, ro_133_3, ro_133_4, ro_133_5, ro_133_6, ro_133_7, ro_133_8, ro_133_9, ro_134_0, ro_136_0, ro_138_0, ro_140_0, ro_142_0, ro_144_0, ro_146_0, ro_148_0, ro_150_0, ro_152_0, ro_154_0, ro_155_0, ro_157_0, ro_157_1, ro_157_2, ro_157_3, ro_157_4, ro_157_5, ro_157_6, ro_157_7, ro_157_8, ro_157_9, ro_158_0, ro_160_0, ro_162_0, ro_164_0, ro_166_0, ro_168_0, ro_170_0, ro_172_0, ro_174_0, ro_176_0, ro_178_0, ro_180_0, ro_182_1, ro_182_4, ro_182_5, ro_182_6, ro_182_9, ro_182_10, ro_182_11, ro_182_13, ro_182_14, ro_182_15, ro_182_16, ro_182_17, ro_182_20, ro_182_21, ro_182_22, ro_182_23, ro_182_24, ro_182_26, ro_182_27, ro_182_28, lo_3, lo_5, lo_7, lo_9, lo_11, lo_13, lo_15, lo_17, lo_19, lo_21, lo_24, lo_26, lo_28, lo_30, lo_32, lo_34, lo_36, lo_38, lo_40, lo_42, lo_44, lo_47, lo_49, lo_51, lo_54, lo_56, lo_58, lo_60, lo_63, lo_65, lo_67, lo_69, lo_72, lo_74, lo_76, lo_78, lo_80, lo_82, lo_84, lo_86, lo_88, lo_90, lo_93, lo_95, lo_97, lo_99, lo_101, lo_103, lo_105, lo_107, lo_109, lo_111, lo_114, lo_116, lo_118, lo_120, lo_122, lo_124, lo_126, lo_128, lo_130, lo_132, lo_135, lo_137, lo_139, lo_141, lo_143, lo_145, lo_147, lo_149, lo_151, lo_153, lo_156, lo_159, lo_161, lo_163, lo_165, lo_167, lo_169, lo_171, lo_173, lo_175, lo_177, lo_179, lo_181, lo_183, lo_184, lo_185, lo_186, lo_187, lo_188, lo_189, lo_190, lo_191, lo_192, lo_193, lo_194, lo_195, lo_196, lo_197, lo_198, lo_199, lo_200, lo_201, lo_202, lo_203, jp_nn, jp_eq, jp_e1, Classical.not_not, ji0, ji1, ji2, cs23_55, kk_55, jl_0, jl_1, jl_2, jl_3, jl_4, jl_5, jl_6, jl_7, jl_8, jl_9, jl_10, jl_11, jl_12, jl_13, jl_14, jl_15, jl_16, jl_17, jl_18, jl_19, jl_20, jl_21, jl_22, jl_23, jl_24, jl_25, jl_26, jl_27, jl_28, jl_29, jl_30, jl_31, jl_32, jl_33, jl_34, jl_35, jl_36, jl_37, jl_38, jl_39, jl_40, jl_95, jl_96, jl_97, jl_98, jl_99, jl_100, jl_101, jl_102, jl_103, jl_104, jl_105, jl_106, jl_107, jl_108, jl_109, jl_110, jl_111, jl_112, jl_113, jl_114, jl_186, jl_1100, jr, ju, jpT, jpF, tnc, Nat.reduceEqDiff, reduceIte, and_false, false_and, not_true_eq_false, not_false_eq_true, or_false, gt_iff_lt, ge_iff_le, Int.lt_irrefl, Int.le_refl, em]
      refine qp_lp (fun en h' => ∃ k : Nat, en = [70, (mn_w : Int), s, (fn_w : Int), (k : Int)] ∧ fn_w ≤ k ∧ k ≤ 12 ∧ (∀ x q : Nat, x ≠ 74 → h' x q = h x q) ∧ ∀ q : Nat, h' 74 q = if 12 * mn_w + fn_w ≤ q ∧ q < 12 * mn_w + k then s else h 74 q) ⟨fn_w, rfl, Nat.le_refl _, hf, fun _ _ _ => rfl, fun q => by rw [if_neg (by omega)]⟩ ?_
      intro en h1 ⟨k, e5_w, z0, z1, z2, z3⟩
      subst e5_w
      by_cases y : (k : Int) < 12
      · have y2 : ¬ (12 : Int) ≤ (k : Int) := by omega
        have ek := jk1 (k := k) (by omega)
        have ef : j32 (((12 * mn_w : Nat) : Int) + (k : Int)) = ((12 * mn_w + k : Nat) : Int) := by
          rw [j32_id (by omega) (by omega)]
          omega
        have es : ∀ {v : Int}, rs h1 73 ((12 * mn_w + k : Nat) : Int) v = j_up h1 74 (12 * mn_w + k) v := fun {v} => rs_in (o := 73) (c := 74) (n := 72) ro_73_0 lo_74 (by omega)
        simp only [qe_1, qe_3, qe_4, qe_5, qe_7, qe_72, qe_10, qe_102, qe_13, qe_14, qe_15, qe_16, qe_17, qe_18, qe_20, qe_22, qe_23, qe_21, qe_24, qe_25, qe_26, qe_27, qe_28, qe_30, qe_31, qe_32, qc_20, qc_22, qc_23, qc_21, qc_24, qc_25, qc_26, qc_27, qc_1, qc_3, qc_4, qc_7, qc_13, qc_28, qc_32, qs_1, qs_2, qs_3, qs_4, qs_5, qs_6, qs_9, qs_10, qs_11, qs_14, qs_15, qs_16, qs_27, qs_17, qs_18, qs_19, qs_20, qs_22, qs_23, qs_28, qs_25, qs_26, qs_7, qs_8, kc_1, kn_1, kc_2, kn_2, kc_3, kn_3, kc_4, kn_4, kc_5, kn_5, kc_6, kn_6, kc_7, kn_7, kc_8, kn_8, kc_9, kn_9, kc_10, kn_10, kc_11, kn_11, kc_12, kn_12, kc_13, kn_13, kc_14, kn_14, kc_15, kn_15, kc_16, kc_17, kc_18, kc_19, kc_20, kc_21, kc_22, kc_23, kc_30, kc_32, kc_40, kc_43, kc_45, kc_48, kc_52, kc_56, kc_57, kc_59, kc_60, kc_61, kc_63, kc_64, kc_72, kc_78, kc_97, kc_99, kc_122, kc_126, kc_128, kc_192, kc_200, kc_255, kc_999, kc_1000, kc_9999, kn_9999, kc_10000, kc_12345, kc_65536, kc_252645135, kc_858993459, kc_1103515245, kc_1431655765, kc_2147483647, kc_0, kc_24, kc_28, kc_37, kc_41, kc_42, kc_73, kc_91, kc_95, kc_96, kc_98, kc_100, kc_112, kc_125, kc_150, kc_162, kc_163, kc_168, kc_186, kc_190, kc_250, kc_355, kc_356, kc_404, kc_405, kc_429, kc_573, kc_1002, kc_1100, kc_1891, kc_2200, kc_4719, kc_4869, kc_4881, kc_5148, kc_19741, kc_25433, kc_320403, kc_628412, kc_629093, kc_660401, kc_679843, kc_918640, kc_979410, kc_1178088, kc_6232410, kc_24644941, kc_36238189, kc_38270444, kc_392531318, kc_425693491, kc_1342154595, kc_2147483648, kc_42328242873, kc_891704255789, kc_1722105685577, kc_1858726030364, ct_0, ct_1, ct_2, ct_3, ct_4, ct_5, cf_0, cf_1, cf_2, cf_3, cf_4, cf_5, w_ty6, w_ty7, m_sv, m_z0, m_hd, m_g0, m_gs, m_s0, m_ss, m_ap, m_an, forall_const, true_and, and_true, ne_eq, not_true_eq_false, not_false_eq_true, false_implies, true_implies, implies_true, eq_self, reduceCtorEq, Nat.reduceDiv, Nat.reduceMod, Int.reduceToNat, or_true, true_or, or_false, false_or, or_self, m_it, m_if, m_c1, m_01, m_02, m_03, m_04, m_10, m_12, m_13, m_14, m_20, m_21, m_23, m_24, m_30, m_31, m_32, m_34, m_40, m_41, m_42, m_43, Int.reduceLE, Int.reduceLT, Int.reduceGE, Int.reduceGT, Int.reduceNeg, Int.reduceAdd, Int.reduceSub, Int.reduceMul, Int.reduceEq, Int.reduceNe, Nat.reduceAdd, jun2, ro_0_0, ro_0_1, ro_0_2, ro_0_3, ro_0_4, ro_0_5, ro_0_6, ro_0_7, ro_0_8, ro_0_9, ro_0_10, ro_0_11, ro_0_12, ro_1_0, ro_1_1, ro_2_0, ro_4_0, ro_6_0, ro_6_1, ro_6_2, ro_6_3, ro_6_4, ro_6_5, ro_6_6, ro_6_7, ro_6_8, ro_8_0, ro_10_0, ro_12_0, ro_14_0, ro_16_0, ro_18_0, ro_20_0, ro_22_0, ro_22_1, ro_22_2, ro_23_0, ro_25_0, ro_27_0, ro_29_0, ro_29_1, ro_29_2, ro_29_3, ro_29_4, ro_29_5, ro_29_6, ro_29_7, ro_29_8, ro_31_0, ro_33_0, ro_35_0, ro_37_0, ro_39_0, ro_41_0, ro_43_0, ro_45_0, ro_45_1, ro_45_2, ro_46_0, ro_48_0, ro_50_0, ro_52_0, ro_52_1, ro_52_2, ro_52_3, ro_53_0, ro_55_0, ro_57_0, ro_59_0, ro_61_0, ro_61_1, ro_61_2, ro_61_3, ro_62_0, ro_64_0, ro_66_0, ro_68_0, ro_70_0, ro_70_1, ro_70_2, ro_70_3, ro_70_4, ro_70_5, ro_70_6, ro_70_7, ro_70_8, ro_70_9, ro_71_0, ro_73_0, ro_75_0, ro_77_0, ro_79_0, ro_81_0, ro_83_0, ro_85_0, ro_87_0, ro_89_0, ro_91_0, ro_91_1, ro_91_2, ro_91_3, ro_91_4, ro_91_5, ro_91_6, ro_91_7, ro_91_8, ro_91_9, ro_92_0, ro_94_0, ro_96_0, ro_98_0, ro_100_0, ro_102_0, ro_104_0, ro_106_0, ro_108_0, ro_110_0, ro_112_0, ro_112_1, ro_112_2, ro_112_3, ro_112_4, ro_112_5, ro_112_6, ro_112_7, ro_112_8, ro_112_9, ro_113_0, ro_115_0, ro_117_0, ro_119_0, ro_121_0, ro_123_0, ro_125_0, ro_127_0, ro_129_0, ro_131_0, ro_133_0, ro_133_1, ro_133_2, ro_133_3, ro_133_4, ro_133_5, ro_133_6, ro_133_7, ro_133_8, ro_133_9, ro_134_0, ro_136_0, ro_138_0, ro_140_0, ro_142_0, ro_144_0, ro_146_0, ro_148_0, ro_150_0, ro_152_0, ro_154_0, ro_155_0, ro_157_0, ro_157_1, ro_157_2, ro_157_3, ro_157_4, ro_157_5, ro_157_6, ro_157_7, ro_157_8, ro_157_9, ro_158_0, ro_160_0, ro_162_0, ro_164_0, ro_166_0, ro_168_0, ro_170_0, ro_172_0, ro_174_0, ro_176_0, ro_178_0, ro_180_0, ro_182_1, ro_182_4, ro_182_5, ro_182_6, ro_182_9, ro_182_10, ro_182_11, ro_182_13, ro_182_14, ro_182_15, ro_182_16, ro_182_17, ro_182_20, ro_182_21, ro_182_22, ro_182_23, ro_182_24, ro_182_26, ro_182_27, ro_182_28, lo_3, lo_5, lo_7, lo_9, lo_11, lo_13, lo_15, lo_17, lo_19, lo_21, lo_24, lo_26, lo_28, lo_30, lo_32, lo_34, lo_36, lo_38, lo_40, lo_42, lo_44, lo_47, lo_49, lo_51, lo_54, lo_56, lo_58, lo_60, lo_63, lo_65, lo_67, lo_69, lo_72, lo_74, lo_76, lo_78, lo_80, lo_82, lo_84, lo_86, lo_88, lo_90, lo_93, lo_95, lo_97, lo_99, lo_101, lo_103, lo_105, lo_107, lo_109, lo_111, lo_114, lo_116, lo_118, lo_120, lo_122, lo_124, lo_126, lo_128, lo_130, lo_132, lo_135, lo_137, lo_139, lo_141, lo_143, lo_145, lo_147, lo_149, lo_151, lo_153, lo_156, lo_159, lo_161, lo_163, lo_165, lo_167, lo_169, lo_171, lo_173, lo_175, lo_177, lo_179, lo_181, lo_183, lo_184, lo_185, lo_186, lo_187, lo_188, lo_189, lo_190, lo_191, lo_192, lo_193, lo_194, lo_195, lo_196, lo_197, lo_198, lo_199, lo_200, lo_201, lo_202, lo_203, jp_nn, jp_eq, jp_e1, Classical.not_not, ji0, ji1, ji2, cs23_55, kk_55, jl_0, jl_1, jl_2, jl_3, jl_4, jl_5, jl_6, jl_7, jl_8, jl_9, jl_10, jl_11, jl_12, jl_13, jl_14, jl_15, jl_16, jl_17, jl_18, jl_19, jl_20, jl_21, jl_22, jl_23, jl_24, jl_25, jl_26, jl_27, jl_28, jl_29, jl_30, jl_31, jl_32, jl_33, jl_34, jl_35, jl_36, jl_37, jl_38, jl_39, jl_40, jl_95, jl_96, jl_97, jl_98, jl_99, jl_100, jl_101, jl_102, jl_103, jl_104, jl_105, jl_106, jl_107, jl_108, jl_109, jl_110, jl_111, jl_112, jl_113, jl_114, jl_186, jl_1100, jr, ju, jpT, jpF, tnc, Nat.reduceEqDiff, reduceIte, and_false, false_and, not_true_eq_false, not_false_eq_true, or_false, gt_iff_lt, ge_iff_le, Int.lt_irrefl, Int.le_refl, em, y, y2, ek, ef, es]
        refine ⟨k + 1, rfl, by omega, by omega, fun x q z => ?_, fun q => ?_⟩
        · rw [if_neg (fun y => z y.1)]
          exact z2 x q z
        · by_cases yq : q = 12 * mn_w + k
          · rw [if_pos yq, if_pos (by omega)]
          · rw [if_neg yq, z3 q]
            by_cases y3 : 12 * mn_w + fn_w ≤ q ∧ q < 12 * mn_w + k
            · rw [if_pos y3, if_pos (by omega)]
            · rw [if_neg y3, if_neg (by omega)]
      · have y2 : (12 : Int) ≤ (k : Int) := by omega
        have ek : k = 12 := by omega
        subst ek
        simp only [qe_1, qe_3, qe_4, qe_5, qe_7, qe_72, qe_10, qe_102, qe_13, qe_14, qe_15, qe_16, qe_17, qe_18, qe_20, qe_22, qe_23, qe_21, qe_24, qe_25, qe_26, qe_27, qe_28, qe_30, qe_31, qe_32, qc_20, qc_22, qc_23, qc_21, qc_24, qc_25, qc_26, qc_27, qc_1, qc_3, qc_4, qc_7, qc_13, qc_28, qc_32, qs_1, qs_2, qs_3, qs_4, qs_5, qs_6, qs_9, qs_10, qs_11, qs_14, qs_15, qs_16, qs_27, qs_17, qs_18, qs_19, qs_20, qs_22, qs_23, qs_28, qs_25, qs_26, qs_7, qs_8, kc_1, kn_1, kc_2, kn_2, kc_3, kn_3, kc_4, kn_4, kc_5, kn_5, kc_6, kn_6, kc_7, kn_7, kc_8, kn_8, kc_9, kn_9, kc_10, kn_10, kc_11, kn_11, kc_12, kn_12, kc_13, kn_13, kc_14, kn_14, kc_15, kn_15, kc_16, kc_17, kc_18, kc_19, kc_20, kc_21, kc_22, kc_23, kc_30, kc_32, kc_40, kc_43, kc_45, kc_48, kc_52, kc_56, kc_57, kc_59, kc_60, kc_61, kc_63, kc_64, kc_72, kc_78, kc_97, kc_99, kc_122, kc_126, kc_128, kc_192, kc_200, kc_255, kc_999, kc_1000, kc_9999, kn_9999, kc_10000, kc_12345, kc_65536, kc_252645135, kc_858993459, kc_1103515245, kc_1431655765, kc_2147483647, kc_0, kc_24, kc_28, kc_37, kc_41, kc_42, kc_73, kc_91, kc_95, kc_96, kc_98, kc_100, kc_112, kc_125, kc_150, kc_162, kc_163, kc_168, kc_186, kc_190, kc_250, kc_355, kc_356, kc_404, kc_405, kc_429, kc_573, kc_1002, kc_1100, kc_1891, kc_2200, kc_4719, kc_4869, kc_4881, kc_5148, kc_19741, kc_25433, kc_320403, kc_628412, kc_629093, kc_660401, kc_679843, kc_918640, kc_979410, kc_1178088, kc_6232410, kc_24644941, kc_36238189, kc_38270444, kc_392531318, kc_425693491, kc_1342154595, kc_2147483648, kc_42328242873, kc_891704255789, kc_1722105685577, kc_1858726030364, ct_0, ct_1, ct_2, ct_3, ct_4, ct_5, cf_0, cf_1, cf_2, cf_3, cf_4, cf_5, w_ty6, w_ty7, m_sv, m_z0, m_hd, m_g0, m_gs, m_s0, m_ss, m_ap, m_an, forall_const, true_and, and_true, ne_eq, not_true_eq_false, not_false_eq_true, false_implies, true_implies, implies_true, eq_self, reduceCtorEq, Nat.reduceDiv, Nat.reduceMod, Int.reduceToNat, or_true, true_or, or_false, false_or, or_self, m_it, m_if, m_c1, m_01, m_02, m_03, m_04, m_10, m_12, m_13, m_14, m_20, m_21, m_23, m_24, m_30, m_31, m_32, m_34, m_40, m_41, m_42, m_43, Int.reduceLE, Int.reduceLT, Int.reduceGE, Int.reduceGT, Int.reduceNeg, Int.reduceAdd, Int.reduceSub, Int.reduceMul, Int.reduceEq, Int.reduceNe, Nat.reduceAdd, jun2, ro_0_0, ro_0_1, ro_0_2, ro_0_3, ro_0_4, ro_0_5, ro_0_6, ro_0_7, ro_0_8, ro_0_9, ro_0_10, ro_0_11, ro_0_12, ro_1_0, ro_1_1, ro_2_0, ro_4_0, ro_6_0, ro_6_1, ro_6_2, ro_6_3, ro_6_4, ro_6_5, ro_6_6, ro_6_7, ro_6_8, ro_8_0, ro_10_0, ro_12_0, ro_14_0, ro_16_0, ro_18_0, ro_20_0, ro_22_0, ro_22_1, ro_22_2, ro_23_0, ro_25_0, ro_27_0, ro_29_0, ro_29_1, ro_29_2, ro_29_3, ro_29_4, ro_29_5, ro_29_6, ro_29_7, ro_29_8, ro_31_0, ro_33_0, ro_35_0, ro_37_0, ro_39_0, ro_41_0, ro_43_0, ro_45_0, ro_45_1, ro_45_2, ro_46_0, ro_48_0, ro_50_0, ro_52_0, ro_52_1, ro_52_2, ro_52_3, ro_53_0, ro_55_0, ro_57_0, ro_59_0, ro_61_0, ro_61_1, ro_61_2, ro_61_3, ro_62_0, ro_64_0, ro_66_0, ro_68_0, ro_70_0, ro_70_1, ro_70_2, ro_70_3, ro_70_4, ro_70_5, ro_70_6, ro_70_7, ro_70_8, ro_70_9, ro_71_0, ro_73_0, ro_75_0, ro_77_0, ro_79_0, ro_81_0, ro_83_0, ro_85_0, ro_87_0, ro_89_0, ro_91_0, ro_91_1, ro_91_2, ro_91_3, ro_91_4, ro_91_5, ro_91_6, ro_91_7, ro_91_8, ro_91_9, ro_92_0, ro_94_0, ro_96_0, ro_98_0, ro_100_0, ro_102_0, ro_104_0, ro_106_0, ro_108_0, ro_110_0, ro_112_0, ro_112_1, ro_112_2, ro_112_3, ro_112_4, ro_112_5, ro_112_6, ro_112_7, ro_112_8, ro_112_9, ro_113_0, ro_115_0, ro_117_0, ro_119_0, ro_121_0, ro_123_0, ro_125_0, ro_127_0, ro_129_0, ro_131_0, ro_133_0, ro_133_1, ro_133_2, ro_133_3, ro_133_4, ro_133_5, ro_133_6, ro_133_7, ro_133_8, ro_133_9, ro_134_0, ro_136_0, ro_138_0, ro_140_0, ro_142_0, ro_144_0, ro_146_0, ro_148_0, ro_150_0, ro_152_0, ro_154_0, ro_155_0, ro_157_0, ro_157_1, ro_157_2, ro_157_3, ro_157_4, ro_157_5, ro_157_6, ro_157_7, ro_157_8, ro_157_9, ro_158_0, ro_160_0, ro_162_0, ro_164_0, ro_166_0, ro_168_0, ro_170_0, ro_172_0, ro_174_0, ro_176_0, ro_178_0, ro_180_0, ro_182_1, ro_182_4, ro_182_5, ro_182_6, ro_182_9, ro_182_10, ro_182_11, ro_182_13, ro_182_14, ro_182_15, ro_182_16, ro_182_17, ro_182_20, ro_182_21, ro_182_22, ro_182_23, ro_182_24, ro_182_26, ro_182_27, ro_182_28, lo_3, lo_5, lo_7, lo_9, lo_11, lo_13, lo_15, lo_17, lo_19, lo_21, lo_24, lo_26, lo_28, lo_30, lo_32, lo_34, lo_36, lo_38, lo_40, lo_42, lo_44, lo_47, lo_49, lo_51, lo_54, lo_56, lo_58, lo_60, lo_63, lo_65, lo_67, lo_69, lo_72, lo_74, lo_76, lo_78, lo_80, lo_82, lo_84, lo_86, lo_88, lo_90, lo_93, lo_95, lo_97, lo_99, lo_101, lo_103, lo_105, lo_107, lo_109, lo_111, lo_114, lo_116, lo_118, lo_120, lo_122, lo_124, lo_126, lo_128, lo_130, lo_132, lo_135, lo_137, lo_139, lo_141, lo_143, lo_145, lo_147, lo_149, lo_151, lo_153, lo_156, lo_159, lo_161, lo_163, lo_165, lo_167, lo_169, lo_171, lo_173, lo_175, lo_177, lo_179, lo_181, lo_183, lo_184, lo_185, lo_186, lo_187, lo_188, lo_189, lo_190, lo_191, lo_192, lo_193, lo_194, lo_195, lo_196, lo_197, lo_198, lo_199, lo_200, lo_201, lo_202, lo_203, jp_nn, jp_eq, jp_e1, Classical.not_not, ji0, ji1, ji2, cs23_55, kk_55, jl_0, jl_1, jl_2, jl_3, jl_4, jl_5, jl_6, jl_7, jl_8, jl_9, jl_10, jl_11, jl_12, jl_13, jl_14, jl_15, jl_16, jl_17, jl_18, jl_19, jl_20, jl_21, jl_22, jl_23, jl_24, jl_25, jl_26, jl_27, jl_28, jl_29, jl_30, jl_31, jl_32, jl_33, jl_34, jl_35, jl_36, jl_37, jl_38, jl_39, jl_40, jl_95, jl_96, jl_97, jl_98, jl_99, jl_100, jl_101, jl_102, jl_103, jl_104, jl_105, jl_106, jl_107, jl_108, jl_109, jl_110, jl_111, jl_112, jl_113, jl_114, jl_186, jl_1100, jr, ju, jpT, jpF, tnc, Nat.reduceEqDiff, reduceIte, and_false, false_and, not_true_eq_false, not_false_eq_true, or_false, gt_iff_lt, ge_iff_le, Int.lt_irrefl, Int.le_refl, em, y, y2]
        exact hQ h1 z2 z3
    · simp only [qe_1, qe_3, qe_4, qe_5, qe_7, qe_72, qe_10, qe_102, qe_13, qe_14, qe_15, qe_16, qe_17, qe_18, qe_20, qe_22, qe_23, qe_21, qe_24, qe_25, qe_26, qe_27, qe_28, qe_30, qe_31, qe_32, qc_20, qc_22, qc_23, qc_21, qc_24, qc_25, qc_26, qc_27, qc_1, qc_3, qc_4, qc_7, qc_13, qc_28, qc_32, qs_1, qs_2, qs_3, qs_4, qs_5, qs_6, qs_9, qs_10, qs_11, qs_14, qs_15, qs_16, qs_27, qs_17, qs_18, qs_19, qs_20, qs_22, qs_23, qs_28, qs_25, qs_26, qs_7, qs_8, kc_1, kn_1, kc_2, kn_2, kc_3, kn_3, kc_4, kn_4, kc_5, kn_5, kc_6, kn_6, kc_7, kn_7, kc_8, kn_8, kc_9, kn_9, kc_10, kn_10, kc_11, kn_11, kc_12, kn_12, kc_13, kn_13, kc_14, kn_14, kc_15, kn_15, kc_16, kc_17, kc_18, kc_19, kc_20, kc_21, kc_22, kc_23, kc_30, kc_32, kc_40, kc_43, kc_45, kc_48, kc_52, kc_56, kc_57, kc_59, kc_60, kc_61, kc_63, kc_64, kc_72, kc_78, kc_97, kc_99, kc_122, kc_126, kc_128, kc_192, kc_200, kc_255, kc_999, kc_1000, kc_9999, kn_9999, kc_10000, kc_12345, kc_65536, kc_252645135, kc_858993459, kc_1103515245, kc_1431655765, kc_2147483647, kc_0, kc_24, kc_28, kc_37, kc_41, kc_42, kc_73, kc_91, kc_95, kc_96, kc_98, kc_100, kc_112, kc_125, kc_150, kc_162, kc_163, kc_168, kc_186, kc_190, kc_250, kc_355, kc_356, kc_404, kc_405, kc_429, kc_573, kc_1002, kc_1100, kc_1891, kc_2200, kc_4719, kc_4869, kc_4881, kc_5148, kc_19741, kc_25433, kc_320403, kc_628412, kc_629093, kc_660401, kc_679843, kc_918640, kc_979410, kc_1178088, kc_6232410, kc_24644941, kc_36238189, kc_38270444, kc_392531318, kc_425693491, kc_1342154595, kc_2147483648, kc_42328242873, kc_891704255789, kc_1722105685577, kc_1858726030364, ct_0, ct_1, ct_2, ct_3, ct_4, ct_5, cf_0, cf_1, cf_2, cf_3, cf_4, cf_5, w_ty6, w_ty7, m_sv, m_z0, m_hd, m_g0, m_gs, m_s0, m_ss, m_ap, m_an, forall_const, true_and, and_true, ne_eq, not_true_eq_false, not_false_eq_true, false_implies, true_implies, implies_true, eq_self, reduceCtorEq, Nat.reduceDiv, Nat.reduceMod, Int.reduceToNat, or_true, true_or, or_false, false_or, or_self, m_it, m_if, m_c1, m_01, m_02, m_03, m_04, m_10, m_12, m_13, m_14, m_20, m_21, m_23, m_24, m_30, m_31, m_32, m_34, m_40, m_41, m_42, m_43, Int.reduceLE, Int.reduceLT, Int.reduceGE, Int.reduceGT, Int.reduceNeg, Int.reduceAdd, Int.reduceSub, Int.reduceMul, Int.reduceEq, Int.reduceNe, Nat.reduceAdd, jun2, ro_0_0, ro_0_1, ro_0_2, ro_0_3, ro_0_4, ro_0_5, ro_0_6, ro_0_7, ro_0_8, ro_0_9, ro_0_10, ro_0_11, ro_0_12, ro_1_0, ro_1_1, ro_2_0, ro_4_0, ro_6_0, ro_6_1, ro_6_2, ro_6_3, ro_6_4, ro_6_5, ro_6_6, ro_6_7, ro_6_8, ro_8_0, ro_10_0, ro_12_0, ro_14_0, ro_16_0, ro_18_0, ro_20_0, ro_22_0, ro_22_1, ro_22_2, ro_23_0, ro_25_0, ro_27_0, ro_29_0, ro_29_1, ro_29_2, ro_29_3, ro_29_4, ro_29_5, ro_29_6, ro_29_7, ro_29_8, ro_31_0, ro_33_0, ro_35_0, ro_37_0, ro_39_0, ro_41_0, ro_43_0, ro_45_0, ro_45_1, ro_45_2, ro_46_0, ro_48_0, ro_50_0, ro_52_0, ro_52_1, ro_52_2, ro_52_3, ro_53_0, ro_55_0, ro_57_0, ro_59_0, ro_61_0, ro_61_1, ro_61_2, ro_61_3, ro_62_0, ro_64_0, ro_66_0, ro_68_0, ro_70_0, ro_70_1, ro_70_2, ro_70_3, ro_70_4, ro_70_5, ro_70_6, ro_70_7, ro_70_8, ro_70_9, ro_71_0, ro_73_0, ro_75_0, ro_77_0, ro_79_0, ro_81_0, ro_83_0, ro_85_0, ro_87_0, ro_89_0, ro_91_0, ro_91_1, ro_91_2, ro_91_3, ro_91_4, ro_91_5, ro_91_6, ro_91_7, ro_91_8, ro_91_9, ro_92_0, ro_94_0, ro_96_0, ro_98_0, ro_100_0, ro_102_0, ro_104_0, ro_106_0, ro_108_0, ro_110_0, ro_112_0, ro_112_1, ro_112_2, ro_112_3, ro_112_4, ro_112_5, ro_112_6, ro_112_7, ro_112_8, ro_112_9, ro_113_0, ro_115_0, ro_117_0, ro_119_0, ro_121_0, ro_123_0, ro_125_0, ro_127_0, ro_129_0, ro_131_0, ro_133_0, ro_133_1, ro_133_2, ro_133_3, ro_133_4, ro_133_5, ro_133_6, ro_133_7, ro_133_8, ro_133_9, ro_134_0, ro_136_0, ro_138_0, ro_140_0, ro_142_0, ro_144_0, ro_146_0, ro_148_0, ro_150_0, ro_152_0, ro_154_0, ro_155_0, ro_157_0, ro_157_1, ro_157_2, ro_157_3, ro_157_4, ro_157_5, ro_157_6, ro_157_7, ro_157_8, ro_157_9, ro_158_0, ro_160_0, ro_162_0, ro_164_0, ro_166_0, ro_168_0, ro_170_0, ro_172_0, ro_174_0, ro_176_0, ro_178_0, ro_180_0, ro_182_1, ro_182_4, ro_182_5, ro_182_6, ro_182_9, ro_182_10, ro_182_11, ro_182_13, ro_182_14, ro_182_15, ro_182_16, ro_182_17, ro_182_20, ro_182_21, ro_182_22, ro_182_23, ro_182_24, ro_182_26, ro_182_27, ro_182_28, lo_3, lo_5, lo_7, lo_9, lo_11, lo_13, lo_15, lo_17, lo_19, lo_21, lo_24, lo_26, lo_28, lo_30, lo_32, lo_34, lo_36, lo_38, lo_40, lo_42, lo_44, lo_47, lo_49, lo_51, lo_54, lo_56, lo_58, lo_60, lo_63, lo_65, lo_67, lo_69, lo_72, lo_74, lo_76, lo_78, lo_80, lo_82, lo_84, lo_86, lo_88, lo_90, lo_93, lo_95, lo_97, lo_99, lo_101, lo_103, lo_105, lo_107, lo_109, lo_111, lo_114, lo_116, lo_118, lo_120, lo_122, lo_124, lo_126, lo_128, lo_130, lo_132, lo_135, lo_137, lo_139, lo_141, lo_143, lo_145, lo_147, lo_149, lo_151, lo_153, lo_156, lo_159, lo_161, lo_163, lo_165, lo_167, lo_169, lo_171, lo_173, lo_175, lo_177, lo_179, lo_181, lo_183, lo_184, lo_185, lo_186, lo_187, lo_188, lo_189, lo_190, lo_191, lo_192, lo_193, lo_194, lo_195, lo_196, lo_197, lo_198, lo_199, lo_200, lo_201, lo_202, lo_203, jp_nn, jp_eq, jp_e1, Classical.not_not, ji0, ji1, ji2, cs23_55, kk_55, jl_0, jl_1, jl_2, jl_3, jl_4, jl_5, jl_6, jl_7, jl_8, jl_9, jl_10, jl_11, jl_12, jl_13, jl_14, jl_15, jl_16, jl_17, jl_18, jl_19, jl_20, jl_21, jl_22, jl_23, jl_24, jl_25, jl_26, jl_27, jl_28, jl_29, jl_30, jl_31, jl_32, jl_33, jl_34, jl_35, jl_36, jl_37, jl_38, jl_39, jl_40, jl_95, jl_96, jl_97, jl_98, jl_99, jl_100, jl_101, jl_102, jl_103, jl_104, jl_105, jl_106, jl_107, jl_108, jl_109, jl_110, jl_111, jl_112, jl_113, jl_114, jl_186, jl_1100, jr, ju, jpT, jpF, tnc, Nat.reduceEqDiff, reduceIte, and_false, false_and, not_true_eq_false, not_false_eq_true, or_false, gt_iff_lt, ge_iff_le, Int.lt_irrefl, Int.le_refl, em]
      refine qp_lp (fun en h' => ∃ k : Nat, en = [91, (mn_w : Int), s, (fn_w : Int), (k : Int)] ∧ fn_w ≤ k ∧ k ≤ 12 ∧ (∀ x q : Nat, x ≠ 95 → h' x q = h x q) ∧ ∀ q : Nat, h' 95 q = if 12 * mn_w + fn_w ≤ q ∧ q < 12 * mn_w + k then s else h 95 q) ⟨fn_w, rfl, Nat.le_refl _, hf, fun _ _ _ => rfl, fun q => by rw [if_neg (by omega)]⟩ ?_
      intro en h1 ⟨k, e5_w, z0, z1, z2, z3⟩
      subst e5_w
      by_cases y : (k : Int) < 12
      · have y2 : ¬ (12 : Int) ≤ (k : Int) := by omega
        have ek := jk1 (k := k) (by omega)
        have ef : j32 (((12 * mn_w : Nat) : Int) + (k : Int)) = ((12 * mn_w + k : Nat) : Int) := by
          rw [j32_id (by omega) (by omega)]
          omega
        have es : ∀ {v : Int}, rs h1 94 ((12 * mn_w + k : Nat) : Int) v = j_up h1 95 (12 * mn_w + k) v := fun {v} => rs_in (o := 94) (c := 95) (n := 72) ro_94_0 lo_95 (by omega)
        simp only [qe_1, qe_3, qe_4, qe_5, qe_7, qe_72, qe_10, qe_102, qe_13, qe_14, qe_15, qe_16, qe_17, qe_18, qe_20, qe_22, qe_23, qe_21, qe_24, qe_25, qe_26, qe_27, qe_28, qe_30, qe_31, qe_32, qc_20, qc_22, qc_23, qc_21, qc_24, qc_25, qc_26, qc_27, qc_1, qc_3, qc_4, qc_7, qc_13, qc_28, qc_32, qs_1, qs_2, qs_3, qs_4, qs_5, qs_6, qs_9, qs_10, qs_11, qs_14, qs_15, qs_16, qs_27, qs_17, qs_18, qs_19, qs_20, qs_22, qs_23, qs_28, qs_25, qs_26, qs_7, qs_8, kc_1, kn_1, kc_2, kn_2, kc_3, kn_3, kc_4, kn_4, kc_5, kn_5, kc_6, kn_6, kc_7, kn_7, kc_8, kn_8, kc_9, kn_9, kc_10, kn_10, kc_11, kn_11, kc_12, kn_12, kc_13, kn_13, kc_14, kn_14, kc_15, kn_15, kc_16, kc_17, kc_18, kc_19, kc_20, kc_21, kc_22, kc_23, kc_30, kc_32, kc_40, kc_43, kc_45, kc_48, kc_52, kc_56, kc_57, kc_59, kc_60, kc_61, kc_63, kc_64, kc_72, kc_78, kc_97, kc_99, kc_122, kc_126, kc_128, kc_192, kc_200, kc_255, kc_999, kc_1000, kc_9999, kn_9999, kc_10000, kc_12345, kc_65536, kc_252645135, kc_858993459, kc_1103515245, kc_1431655765, kc_2147483647, kc_0, kc_24, kc_28, kc_37, kc_41, kc_42, kc_73, kc_91, kc_95, kc_96, kc_98, kc_100, kc_112, kc_125, kc_150, kc_162, kc_163, kc_168, kc_186, kc_190, kc_250, kc_355, kc_356, kc_404, kc_405, kc_429, kc_573, kc_1002, kc_1100, kc_1891, kc_2200, kc_4719, kc_4869, kc_4881, kc_5148, kc_19741, kc_25433, kc_320403, kc_628412, kc_629093, kc_660401, kc_679843, kc_918640, kc_979410, kc_1178088, kc_6232410, kc_24644941, kc_36238189, kc_38270444, kc_392531318, kc_425693491, kc_1342154595, kc_2147483648, kc_42328242873, kc_891704255789, kc_1722105685577, kc_1858726030364, ct_0, ct_1, ct_2, ct_3, ct_4, ct_5, cf_0, cf_1, cf_2, cf_3, cf_4, cf_5, w_ty6, w_ty7, m_sv, m_z0, m_hd, m_g0, m_gs, m_s0, m_ss, m_ap, m_an, forall_const, true_and, and_true, ne_eq, not_true_eq_false, not_false_eq_true, false_implies, true_implies, implies_true, eq_self, reduceCtorEq, Nat.reduceDiv, Nat.reduceMod, Int.reduceToNat, or_true, true_or, or_false, false_or, or_self, m_it, m_if, m_c1, m_01, m_02, m_03, m_04, m_10, m_12, m_13, m_14, m_20, m_21, m_23, m_24, m_30, m_31, m_32, m_34, m_40, m_41, m_42, m_43, Int.reduceLE, Int.reduceLT, Int.reduceGE, Int.reduceGT, Int.reduceNeg, Int.reduceAdd, Int.reduceSub, Int.reduceMul, Int.reduceEq, Int.reduceNe, Nat.reduceAdd, jun2, ro_0_0, ro_0_1, ro_0_2, ro_0_3, ro_0_4, ro_0_5, ro_0_6, ro_0_7, ro_0_8, ro_0_9, ro_0_10, ro_0_11, ro_0_12, ro_1_0, ro_1_1, ro_2_0, ro_4_0, ro_6_0, ro_6_1, ro_6_2, ro_6_3, ro_6_4, ro_6_5, ro_6_6, ro_6_7, ro_6_8, ro_8_0, ro_10_0, ro_12_0, ro_14_0, ro_16_0, ro_18_0, ro_20_0, ro_22_0, ro_22_1, ro_22_2, ro_23_0, ro_25_0, ro_27_0, ro_29_0, ro_29_1, ro_29_2, ro_29_3, ro_29_4, ro_29_5, ro_29_6, ro_29_7, ro_29_8, ro_31_0, ro_33_0, ro_35_0, ro_37_0, ro_39_0, ro_41_0, ro_43_0, ro_45_0, ro_45_1, ro_45_2, ro_46_0, ro_48_0, ro_50_0, ro_52_0, ro_52_1, ro_52_2, ro_52_3, ro_53_0, ro_55_0, ro_57_0, ro_59_0, ro_61_0, ro_61_1, ro_61_2, ro_61_3, ro_62_0, ro_64_0, ro_66_0, ro_68_0, ro_70_0, ro_70_1, ro_70_2, ro_70_3, ro_70_4, ro_70_5, ro_70_6, ro_70_7, ro_70_8, ro_70_9, ro_71_0, ro_73_0, ro_75_0, ro_77_0, ro_79_0, ro_81_0, ro_83_0, ro_85_0, ro_87_0, ro_89_0, ro_91_0, ro_91_1, ro_91_2, ro_91_3, ro_91_4, ro_91_5, ro_91_6, ro_91_7, ro_91_8, ro_91_9, ro_92_0, ro_94_0, ro_96_0, ro_98_0, ro_100_0, ro_102_0, ro_104_0, ro_106_0, ro_108_0, ro_110_0, ro_112_0, ro_112_1, ro_112_2, ro_112_3, ro_112_4, ro_112_5, ro_112_6, ro_112_7, ro_112_8, ro_112_9, ro_113_0, ro_115_0, ro_117_0, ro_119_0, ro_121_0, ro_123_0, ro_125_0, ro_127_0, ro_129_0, ro_131_0, ro_133_0, ro_133_1, ro_133_2, ro_133_3, ro_133_4, ro_133_5, ro_133_6, ro_133_7, ro_133_8, ro_133_9, ro_134_0, ro_136_0, ro_138_0, ro_140_0, ro_142_0, ro_144_0, ro_146_0, ro_148_0, ro_150_0, ro_152_0, ro_154_0, ro_155_0, ro_157_0, ro_157_1, ro_157_2, ro_157_3, ro_157_4, ro_157_5, ro_157_6, ro_157_7, ro_157_8, ro_157_9, ro_158_0, ro_160_0, ro_162_0, ro_164_0, ro_166_0, ro_168_0, ro_170_0, ro_172_0, ro_174_0, ro_176_0, ro_178_0, ro_180_0, ro_182_1, ro_182_4, ro_182_5, ro_182_6, ro_182_9, ro_182_10, ro_182_11, ro_182_13, ro_182_14, ro_182_15, ro_182_16, ro_182_17, ro_182_20, ro_182_21, ro_182_22, ro_182_23, ro_182_24, ro_182_26, ro_182_27, ro_182_28, lo_3, lo_5, lo_7, lo_9, lo_11, lo_13, lo_15, lo_17, lo_19, lo_21, lo_24, lo_26, lo_28, lo_30, lo_32, lo_34, lo_36, lo_38, lo_40, lo_42, lo_44, lo_47, lo_49, lo_51, lo_54, lo_56, lo_58, lo_60, lo_63, lo_65, lo_67, lo_69, lo_72, lo_74, lo_76, lo_78, lo_80, lo_82, lo_84, lo_86, lo_88, lo_90, lo_93, lo_95, lo_97, lo_99, lo_101, lo_103, lo_105, lo_107, lo_109, lo_111, lo_114, lo_116, lo_118, lo_120, lo_122, lo_124, lo_126, lo_128, lo_130, lo_132, lo_135, lo_137, lo_139, lo_141, lo_143, lo_145, lo_147, lo_149, lo_151, lo_153, lo_156, lo_159, lo_161, lo_163, lo_165, lo_167, lo_169, lo_171, lo_173, lo_175, lo_177, lo_179, lo_181, lo_183, lo_184, lo_185, lo_186, lo_187, lo_188, lo_189, lo_190, lo_191, lo_192, lo_193, lo_194, lo_195, lo_196, lo_197, lo_198, lo_199, lo_200, lo_201, lo_202, lo_203, jp_nn, jp_eq, jp_e1, Classical.not_not, ji0, ji1, ji2, cs23_55, kk_55, jl_0, jl_1, jl_2, jl_3, jl_4, jl_5, jl_6, jl_7, jl_8, jl_9, jl_10, jl_11, jl_12, jl_13, jl_14, jl_15, jl_16, jl_17, jl_18, jl_19, jl_20, jl_21, jl_22, jl_23, jl_24, jl_25, jl_26, jl_27, jl_28, jl_29, jl_30, jl_31, jl_32, jl_33, jl_34, jl_35, jl_36, jl_37, jl_38, jl_39, jl_40, jl_95, jl_96, jl_97, jl_98, jl_99, jl_100, jl_101, jl_102, jl_103, jl_104, jl_105, jl_106, jl_107, jl_108, jl_109, jl_110, jl_111, jl_112, jl_113, jl_114, jl_186, jl_1100, jr, ju, jpT, jpF, tnc, Nat.reduceEqDiff, reduceIte, and_false, false_and, not_true_eq_false, not_false_eq_true, or_false, gt_iff_lt, ge_iff_le, Int.lt_irrefl, Int.le_refl, em, y, y2, ek, ef, es]
        refine ⟨k + 1, rfl, by omega, by omega, fun x q z => ?_, fun q => ?_⟩
        · rw [if_neg (fun y => z y.1)]
          exact z2 x q z
        · by_cases yq : q = 12 * mn_w + k
          · rw [if_pos yq, if_pos (by omega)]
          · rw [if_neg yq, z3 q]
            by_cases y3 : 12 * mn_w + fn_w ≤ q ∧ q < 12 * mn_w + k
            · rw [if_pos y3, if_pos (by omega)]
            · rw [if_neg y3, if_neg (by omega)]
      · have y2 : (12 : Int) ≤ (k : Int) := by omega
        have ek : k = 12 := by omega
        subst ek
        simp only [qe_1, qe_3, qe_4, qe_5, qe_7, qe_72, qe_10, qe_102, qe_13, qe_14, qe_15, qe_16, qe_17, qe_18, qe_20, qe_22, qe_23, qe_21, qe_24, qe_25, qe_26, qe_27, qe_28, qe_30, qe_31, qe_32, qc_20, qc_22, qc_23, qc_21, qc_24, qc_25, qc_26, qc_27, qc_1, qc_3, qc_4, qc_7, qc_13, qc_28, qc_32, qs_1, qs_2, qs_3, qs_4, qs_5, qs_6, qs_9, qs_10, qs_11, qs_14, qs_15, qs_16, qs_27, qs_17, qs_18, qs_19, qs_20, qs_22, qs_23, qs_28, qs_25, qs_26, qs_7, qs_8, kc_1, kn_1, kc_2, kn_2, kc_3, kn_3, kc_4, kn_4, kc_5, kn_5, kc_6, kn_6, kc_7, kn_7, kc_8, kn_8, kc_9, kn_9, kc_10, kn_10, kc_11, kn_11, kc_12, kn_12, kc_13, kn_13, kc_14, kn_14, kc_15, kn_15, kc_16, kc_17, kc_18, kc_19, kc_20, kc_21, kc_22, kc_23, kc_30, kc_32, kc_40, kc_43, kc_45, kc_48, kc_52, kc_56, kc_57, kc_59, kc_60, kc_61, kc_63, kc_64, kc_72, kc_78, kc_97, kc_99, kc_122, kc_126, kc_128, kc_192, kc_200, kc_255, kc_999, kc_1000, kc_9999, kn_9999, kc_10000, kc_12345, kc_65536, kc_252645135, kc_858993459, kc_1103515245, kc_1431655765, kc_2147483647, kc_0, kc_24, kc_28, kc_37, kc_41, kc_42, kc_73, kc_91, kc_95, kc_96, kc_98, kc_100, kc_112, kc_125, kc_150, kc_162, kc_163, kc_168, kc_186, kc_190, kc_250, kc_355, kc_356, kc_404, kc_405, kc_429, kc_573, kc_1002, kc_1100, kc_1891, kc_2200, kc_4719, kc_4869, kc_4881, kc_5148, kc_19741, kc_25433, kc_320403, kc_628412, kc_629093, kc_660401, kc_679843, kc_918640, kc_979410, kc_1178088, kc_6232410, kc_24644941, kc_36238189, kc_38270444, kc_392531318, kc_425693491, kc_1342154595, kc_2147483648, kc_42328242873, kc_891704255789, kc_1722105685577, kc_1858726030364, ct_0, ct_1, ct_2, ct_3, ct_4, ct_5, cf_0, cf_1, cf_2, cf_3, cf_4, cf_5, w_ty6, w_ty7, m_sv, m_z0, m_hd, m_g0, m_gs, m_s0, m_ss, m_ap, m_an, forall_const, true_and, and_true, ne_eq, not_true_eq_false, not_false_eq_true, false_implies, true_implies, implies_true, eq_self, reduceCtorEq, Nat.reduceDiv, Nat.reduceMod, Int.reduceToNat, or_true, true_or, or_false, false_or, or_self, m_it, m_if, m_c1, m_01, m_02, m_03, m_04, m_10, m_12, m_13, m_14, m_20, m_21, m_23, m_24, m_30, m_31, m_32, m_34, m_40, m_41, m_42, m_43, Int.reduceLE, Int.reduceLT, Int.reduceGE, Int.reduceGT, Int.reduceNeg, Int.reduceAdd, Int.reduceSub, Int.reduceMul, Int.reduceEq, Int.reduceNe, Nat.reduceAdd, jun2, ro_0_0, ro_0_1, ro_0_2, ro_0_3, ro_0_4, ro_0_5, ro_0_6, ro_0_7, ro_0_8, ro_0_9, ro_0_10, ro_0_11, ro_0_12, ro_1_0, ro_1_1, ro_2_0, ro_4_0, ro_6_0, ro_6_1, ro_6_2, ro_6_3, ro_6_4, ro_6_5, ro_6_6, ro_6_7, ro_6_8, ro_8_0, ro_10_0, ro_12_0, ro_14_0, ro_16_0, ro_18_0, ro_20_0, ro_22_0, ro_22_1, ro_22_2, ro_23_0, ro_25_0, ro_27_0, ro_29_0, ro_29_1, ro_29_2, ro_29_3, ro_29_4, ro_29_5, ro_29_6, ro_29_7, ro_29_8, ro_31_0, ro_33_0, ro_35_0, ro_37_0, ro_39_0, ro_41_0, ro_43_0, ro_45_0, ro_45_1, ro_45_2, ro_46_0, ro_48_0, ro_50_0, ro_52_0, ro_52_1, ro_52_2, ro_52_3, ro_53_0, ro_55_0, ro_57_0, ro_59_0, ro_61_0, ro_61_1, ro_61_2, ro_61_3, ro_62_0, ro_64_0, ro_66_0, ro_68_0, ro_70_0, ro_70_1, ro_70_2, ro_70_3, ro_70_4, ro_70_5, ro_70_6, ro_70_7, ro_70_8, ro_70_9, ro_71_0, ro_73_0, ro_75_0, ro_77_0, ro_79_0, ro_81_0, ro_83_0, ro_85_0, ro_87_0, ro_89_0, ro_91_0, ro_91_1, ro_91_2, ro_91_3, ro_91_4, ro_91_5, ro_91_6, ro_91_7, ro_91_8, ro_91_9, ro_92_0, ro_94_0, ro_96_0, ro_98_0, ro_100_0, ro_102_0, ro_104_0, ro_106_0, ro_108_0, ro_110_0, ro_112_0, ro_112_1, ro_112_2, ro_112_3, ro_112_4, ro_112_5, ro_112_6, ro_112_7, ro_112_8, ro_112_9, ro_113_0, ro_115_0, ro_117_0, ro_119_0, ro_121_0, ro_123_0, ro_125_0, ro_127_0, ro_129_0, ro_131_0, ro_133_0, ro_133_1, ro_133_2, ro_133_3, ro_133_4, ro_133_5, ro_133_6, ro_133_7, ro_133_8, ro_133_9, ro_134_0, ro_136_0, ro_138_0, ro_140_0, ro_142_0, ro_144_0, ro_146_0, ro_148_0, ro_150_0, ro_152_0, ro_154_0, ro_155_0, ro_157_0, ro_157_1, ro_157_2, ro_157_3, ro_157_4, ro_157_5, ro_157_6, ro_157_7, ro_157_8, ro_157_9, ro_158_0, ro_160_0, ro_162_0, ro_164_0, ro_166_0, ro_168_0, ro_170_0, ro_172_0, ro_174_0, ro_176_0, ro_178_0, ro_180_0, ro_182_1, ro_182_4, ro_182_5, ro_182_6, ro_182_9, ro_182_10, ro_182_11, ro_182_13, ro_182_14, ro_182_15, ro_182_16, ro_182_17, ro_182_20, ro_182_21, ro_182_22, ro_182_23, ro_182_24, ro_182_26, ro_182_27, ro_182_28, lo_3, lo_5, lo_7, lo_9, lo_11, lo_13, lo_15, lo_17, lo_19, lo_21, lo_24, lo_26, lo_28, lo_30, lo_32, lo_34, lo_36, lo_38, lo_40, lo_42, lo_44, lo_47, lo_49, lo_51, lo_54, lo_56, lo_58, lo_60, lo_63, lo_65, lo_67, lo_69, lo_72, lo_74, lo_76, lo_78, lo_80, lo_82, lo_84, lo_86, lo_88, lo_90, lo_93, lo_95, lo_97, lo_99, lo_101, lo_103, lo_105, lo_107, lo_109, lo_111, lo_114, lo_116, lo_118, lo_120, lo_122, lo_124, lo_126, lo_128, lo_130, lo_132, lo_135, lo_137, lo_139, lo_141, lo_143, lo_145, lo_147, lo_149, lo_151, lo_153, lo_156, lo_159, lo_161, lo_163, lo_165, lo_167, lo_169, lo_171, lo_173, lo_175, lo_177, lo_179, lo_181, lo_183, lo_184, lo_185, lo_186, lo_187, lo_188, lo_189, lo_190, lo_191, lo_192, lo_193, lo_194, lo_195, lo_196, lo_197, lo_198, lo_199, lo_200, lo_201, lo_202, lo_203, jp_nn, jp_eq, jp_e1, Classical.not_not, ji0, ji1, ji2, cs23_55, kk_55, jl_0, jl_1, jl_2, jl_3, jl_4, jl_5, jl_6, jl_7, jl_8, jl_9, jl_10, jl_11, jl_12, jl_13, jl_14, jl_15, jl_16, jl_17, jl_18, jl_19, jl_20, jl_21, jl_22, jl_23, jl_24, jl_25, jl_26, jl_27, jl_28, jl_29, jl_30, jl_31, jl_32, jl_33, jl_34, jl_35, jl_36, jl_37, jl_38, jl_39, jl_40, jl_95, jl_96, jl_97, jl_98, jl_99, jl_100, jl_101, jl_102, jl_103, jl_104, jl_105, jl_106, jl_107, jl_108, jl_109, jl_110, jl_111, jl_112, jl_113, jl_114, jl_186, jl_1100, jr, ju, jpT, jpF, tnc, Nat.reduceEqDiff, reduceIte, and_false, false_and, not_true_eq_false, not_false_eq_true, or_false, gt_iff_lt, ge_iff_le, Int.lt_irrefl, Int.le_refl, em, y, y2]
        exact hQ h1 z2 z3
  · exact hQ.elim
theorem m_142 : BodyOK CS23 CS23 142 := fun av h Q hQ => by
  rw [cs23_142] at hQ
  unfold k142 at hQ
  split at hQ
  · rename_i o p
    obtain ⟨rfl, b, D, hb_w, rfl, cd, hQ⟩ := hQ
    have c3 : h 6 12 = (D.2.2.2.2.1.length : Int) := cd.1.1.2.2.1
    have l3 : D.2.2.2.2.1.length ≤ 6 := cd.1.1.2.2.2.2.2
    have d4_w := cd.2.2.2.2.1
    show pS CS23 bb_142 [(b : Int), 6, 0] h _
    unfold bb_142
    rcases id hb_w with rfl | rfl
    · simp only [qe_1, qe_3, qe_4, qe_5, qe_7, qe_72, qe_10, qe_102, qe_13, qe_14, qe_15, qe_16, qe_17, qe_18, qe_20, qe_22, qe_23, qe_21, qe_24, qe_25, qe_26, qe_27, qe_28, qe_30, qe_31, qe_32, qc_20, qc_22, qc_23, qc_21, qc_24, qc_25, qc_26, qc_27, qc_1, qc_3, qc_4, qc_7, qc_13, qc_28, qc_32, qs_1, qs_2, qs_3, qs_4, qs_5, qs_6, qs_9, qs_10, qs_11, qs_14, qs_15, qs_16, qs_27, qs_17, qs_18, qs_19, qs_20, qs_22, qs_23, qs_28, qs_25, qs_26, qs_7, qs_8, kc_1, kn_1, kc_2, kn_2, kc_3, kn_3, kc_4, kn_4, kc_5, kn_5, kc_6, kn_6, kc_7, kn_7, kc_8, kn_8, kc_9, kn_9, kc_10, kn_10, kc_11, kn_11, kc_12, kn_12, kc_13, kn_13, kc_14, kn_14, kc_15, kn_15, kc_16, kc_17, kc_18, kc_19, kc_20, kc_21, kc_22, kc_23, kc_30, kc_32, kc_40, kc_43, kc_45, kc_48, kc_52, kc_56, kc_57, kc_59, kc_60, kc_61, kc_63, kc_64, kc_72, kc_78, kc_97, kc_99, kc_122, kc_126, kc_128, kc_192, kc_200, kc_255, kc_999, kc_1000, kc_9999, kn_9999, kc_10000, kc_12345, kc_65536, kc_252645135, kc_858993459, kc_1103515245, kc_1431655765, kc_2147483647, kc_0, kc_24, kc_28, kc_37, kc_41, kc_42, kc_73, kc_91, kc_95, kc_96, kc_98, kc_100, kc_112, kc_125, kc_150, kc_162, kc_163, kc_168, kc_186, kc_190, kc_250, kc_355, kc_356, kc_404, kc_405, kc_429, kc_573, kc_1002, kc_1100, kc_1891, kc_2200, kc_4719, kc_4869, kc_4881, kc_5148, kc_19741, kc_25433, kc_320403, kc_628412, kc_629093, kc_660401, kc_679843, kc_918640, kc_979410, kc_1178088, kc_6232410, kc_24644941, kc_36238189, kc_38270444, kc_392531318, kc_425693491, kc_1342154595, kc_2147483648, kc_42328242873, kc_891704255789, kc_1722105685577, kc_1858726030364, ct_0, ct_1, ct_2, ct_3, ct_4, ct_5, cf_0, cf_1, cf_2, cf_3, cf_4, cf_5, w_ty6, w_ty7, m_sv, m_z0, m_hd, m_g0, m_gs, m_s0, m_ss, m_ap, m_an, forall_const, true_and, and_true, ne_eq, not_true_eq_false, not_false_eq_true, false_implies, true_implies, implies_true, eq_self, reduceCtorEq, Nat.reduceDiv, Nat.reduceMod, Int.reduceToNat, or_true, true_or, or_false, false_or, or_self, m_it, m_if, m_c1, m_01, m_02, m_03, m_04, m_10, m_12, m_13, m_14, m_20, m_21, m_23, m_24, m_30, m_31, m_32, m_34, m_40, m_41, m_42, m_43, Int.reduceLE, Int.reduceLT, Int.reduceGE, Int.reduceGT, Int.reduceNeg, Int.reduceAdd, Int.reduceSub, Int.reduceMul, Int.reduceEq, Int.reduceNe, Nat.reduceAdd, jun2, ro_0_0, ro_0_1, ro_0_2, ro_0_3, ro_0_4, ro_0_5, ro_0_6, ro_0_7, ro_0_8, ro_0_9, ro_0_10, ro_0_11, ro_0_12, ro_1_0, ro_1_1, ro_2_0, ro_4_0, ro_6_0, ro_6_1, ro_6_2, ro_6_3, ro_6_4, ro_6_5, ro_6_6, ro_6_7, ro_6_8, ro_8_0, ro_10_0, ro_12_0, ro_14_0, ro_16_0, ro_18_0, ro_20_0, ro_22_0, ro_22_1, ro_22_2, ro_23_0, ro_25_0, ro_27_0, ro_29_0, ro_29_1, ro_29_2, ro_29_3, ro_29_4, ro_29_5, ro_29_6, ro_29_7, ro_29_8, ro_31_0, ro_33_0, ro_35_0, ro_37_0, ro_39_0, ro_41_0, ro_43_0, ro_45_0, ro_45_1, ro_45_2, ro_46_0, ro_48_0, ro_50_0, ro_52_0, ro_52_1, ro_52_2, ro_52_3, ro_53_0, ro_55_0, ro_57_0, ro_59_0, ro_61_0, ro_61_1, ro_61_2, ro_61_3, ro_62_0, ro_64_0, ro_66_0, ro_68_0, ro_70_0, ro_70_1, ro_70_2, ro_70_3, ro_70_4, ro_70_5, ro_70_6, ro_70_7, ro_70_8, ro_70_9, ro_71_0, ro_73_0, ro_75_0, ro_77_0, ro_79_0, ro_81_0, ro_83_0, ro_85_0, ro_87_0, ro_89_0, ro_91_0, ro_91_1, ro_91_2, ro_91_3, ro_91_4, ro_91_5, ro_91_6, ro_91_7, ro_91_8, ro_91_9, ro_92_0, ro_94_0, ro_96_0, ro_98_0, ro_100_0, ro_102_0, ro_104_0, ro_106_0, ro_108_0, ro_110_0, ro_112_0, ro_112_1, ro_112_2, ro_112_3, ro_112_4, ro_112_5, ro_112_6, ro_112_7, ro_112_8, ro_112_9, ro_113_0, ro_115_0, ro_117_0, ro_119_0, ro_121_0, ro_123_0, ro_125_0, ro_127_0, ro_129_0, ro_131_0, ro_133_0, ro_133_1, ro_133_2, ro_133_3, ro_133_4, ro_133_5, ro_133_6, ro_133_7, ro_133_8, ro_133_9, ro_134_0, ro_136_0, ro_138_0, ro_140_0, ro_142_0, ro_144_0, ro_146_0, ro_148_0, ro_150_0, ro_152_0, ro_154_0, ro_155_0, ro_157_0, ro_157_1, ro_157_2, ro_157_3, ro_157_4, ro_157_5, ro_157_6, ro_157_7, ro_157_8, ro_157_9, ro_158_0, ro_160_0, ro_162_0, ro_164_0, ro_166_0, ro_168_0, ro_170_0, ro_172_0, ro_174_0, ro_176_0, ro_178_0, ro_180_0, ro_182_1, ro_182_4, ro_182_5, ro_182_6, ro_182_9, ro_182_10, ro_182_11, ro_182_13, ro_182_14, ro_182_15, ro_182_16, ro_182_17, ro_182_20, ro_182_21, ro_182_22, ro_182_23, ro_182_24, ro_182_26, ro_182_27, ro_182_28, lo_3, lo_5, lo_7, lo_9, lo_11, lo_13, lo_15, lo_17, lo_19, lo_21, lo_24, lo_26, lo_28, lo_30, lo_32, lo_34, lo_36, lo_38, lo_40, lo_42, lo_44, lo_47, lo_49, lo_51, lo_54, lo_56, lo_58, lo_60, lo_63, lo_65, lo_67, lo_69, lo_72, lo_74, lo_76, lo_78, lo_80, lo_82, lo_84, lo_86, lo_88, lo_90, lo_93, lo_95, lo_97, lo_99, lo_101, lo_103, lo_105, lo_107, lo_109, lo_111, lo_114, lo_116, lo_118, lo_120, lo_122, lo_124, lo_126, lo_128, lo_130, lo_132, lo_135, lo_137, lo_139, lo_141, lo_143, lo_145, lo_147, lo_149, lo_151, lo_153, lo_156, lo_159, lo_161, lo_163, lo_165, lo_167, lo_169, lo_171, lo_173, lo_175, lo_177, lo_179, lo_181, lo_183, lo_184, lo_185, lo_186, lo_187, lo_188, lo_189, lo_190, lo_191, lo_192, lo_193, lo_194, lo_195, lo_196, lo_197, lo_198, lo_199, lo_200, lo_201, lo_202, lo_203, jp_nn, jp_eq, jp_e1, Classical.not_not, ji0, ji1, ji2, cs23_54, kk_54, cs23_57, kk_57, cs23_58, kk_58, cs23_156, kk_156, jl_0, jl_1, jl_2, jl_3, jl_4, jl_5, jl_6, jl_7, jl_8, jl_9, jl_10, jl_11, jl_12, jl_13, jl_14, jl_15, jl_16, jl_17, jl_18, jl_19, jl_20, jl_21, jl_22, jl_23, jl_24, jl_25, jl_26, jl_27, jl_28, jl_29, jl_30, jl_31, jl_32, jl_33, jl_34, jl_35, jl_36, jl_37, jl_38, jl_39, jl_40, jl_95, jl_96, jl_97, jl_98, jl_99, jl_100, jl_101, jl_102, jl_103, jl_104, jl_105, jl_106, jl_107, jl_108, jl_109, jl_110, jl_111, jl_112, jl_113, jl_114, jl_186, jl_1100, jr, ju, jpT, jpF, tnc, Nat.reduceEqDiff, reduceIte, and_false, false_and, not_true_eq_false, not_false_eq_true, or_false, gt_iff_lt, ge_iff_le, Int.lt_irrefl, Int.le_refl]
      refine ⟨72, 78, rfl, lo_72, by decide, fun h1 f1_w g1 => ?_⟩
      refine qp_lp (fun en h' => ∃ m : Nat, en = [70, 6, (m : Int)] ∧ m ≤ D.2.2.2.2.1.length ∧ (∀ x k : Nat, ¬ (x = 72 ∨ x = 74) → h' x k = h x k) ∧ (∀ k : Nat, k < 78 → h' 72 k = -1) ∧ ∀ q : Nat, q < m → ∀ x, D.2.2.2.2.1[q]? = some x → ∀ s : Nat, s < 12 → h' 74 (12 * q + s) = x.2.2.2) ⟨0, rfl, Nat.zero_le _, fun x k z => f1_w x k (by omega), g1, fun q z => by omega⟩ ?_
      intro en h2 ⟨m, e5_w, z1, z2, z3, z4⟩
      subst e5_w
      have em : h2 6 12 = (D.2.2.2.2.1.length : Int) := (z2 6 12 (by omega)).trans c3
      by_cases y : (m : Int) < (D.2.2.2.2.1.length : Int)
      · have y2 : ¬ (D.2.2.2.2.1.length : Int) ≤ (m : Int) := by omega
        have ek := jk1 (k := m) (by omega)
        obtain ⟨x, hx⟩ : ∃ x, D.2.2.2.2.1[m]? = some x := ⟨_, List.getElem?_eq_getElem (by omega)⟩
        have ev_w : rg h2 20 (m : Int) = x.2.2.2 := (rg_in (o := 20) (c := 21) (n := 6) ro_20_0 lo_21 (by omega)).trans ((z2 21 m (by omega)).trans (d4_w.1 m x hx).2.2)
        simp only [qe_1, qe_3, qe_4, qe_5, qe_7, qe_72, qe_10, qe_102, qe_13, qe_14, qe_15, qe_16, qe_17, qe_18, qe_20, qe_22, qe_23, qe_21, qe_24, qe_25, qe_26, qe_27, qe_28, qe_30, qe_31, qe_32, qc_20, qc_22, qc_23, qc_21, qc_24, qc_25, qc_26, qc_27, qc_1, qc_3, qc_4, qc_7, qc_13, qc_28, qc_32, qs_1, qs_2, qs_3, qs_4, qs_5, qs_6, qs_9, qs_10, qs_11, qs_14, qs_15, qs_16, qs_27, qs_17, qs_18, qs_19, qs_20, qs_22, qs_23, qs_28, qs_25, qs_26, qs_7, qs_8, kc_1, kn_1, kc_2, kn_2, kc_3, kn_3, kc_4, kn_4, kc_5, kn_5, kc_6, kn_6, kc_7, kn_7, kc_8, kn_8, kc_9, kn_9, kc_10, kn_10, kc_11, kn_11, kc_12, kn_12, kc_13, kn_13, kc_14, kn_14, kc_15, kn_15, kc_16, kc_17, kc_18, kc_19, kc_20, kc_21, kc_22, kc_23, kc_30, kc_32, kc_40, kc_43, kc_45, kc_48, kc_52, kc_56, kc_57, kc_59, kc_60, kc_61, kc_63, kc_64, kc_72, kc_78, kc_97, kc_99, kc_122, kc_126, kc_128, kc_192, kc_200, kc_255, kc_999, kc_1000, kc_9999, kn_9999, kc_10000, kc_12345, kc_65536, kc_252645135, kc_858993459, kc_1103515245, kc_1431655765, kc_2147483647, kc_0, kc_24, kc_28, kc_37, kc_41, kc_42, kc_73, kc_91, kc_95, kc_96, kc_98, kc_100, kc_112, kc_125, kc_150, kc_162, kc_163, kc_168, kc_186, kc_190, kc_250, kc_355, kc_356, kc_404, kc_405, kc_429, kc_573, kc_1002, kc_1100, kc_1891, kc_2200, kc_4719, kc_4869, kc_4881, kc_5148, kc_19741, kc_25433, kc_320403, kc_628412, kc_629093, kc_660401, kc_679843, kc_918640, kc_979410, kc_1178088, kc_6232410, kc_24644941, kc_36238189, kc_38270444, kc_392531318, kc_425693491, kc_1342154595, kc_2147483648, kc_42328242873, kc_891704255789, kc_1722105685577, kc_1858726030364, ct_0, ct_1, ct_2, ct_3, ct_4, ct_5, cf_0, cf_1, cf_2, cf_3, cf_4, cf_5, w_ty6, w_ty7, m_sv, m_z0, m_hd, m_g0, m_gs, m_s0, m_ss, m_ap, m_an, forall_const, true_and, and_true, ne_eq, not_true_eq_false, not_false_eq_true, false_implies, true_implies, implies_true, eq_self, reduceCtorEq, Nat.reduceDiv, Nat.reduceMod, Int.reduceToNat, or_true, true_or, or_false, false_or, or_self, m_it, m_if, m_c1, m_01, m_02, m_03, m_04, m_10, m_12, m_13, m_14, m_20, m_21, m_23, m_24, m_30, m_31, m_32, m_34, m_40, m_41, m_42, m_43, Int.reduceLE, Int.reduceLT, Int.reduceGE, Int.reduceGT, Int.reduceNeg, Int.reduceAdd, Int.reduceSub, Int.reduceMul, Int.reduceEq, Int.reduceNe, Nat.reduceAdd, jun2, ro_0_0, ro_0_1, ro_0_2, ro_0_3, ro_0_4, ro_0_5, ro_0_6, ro_0_7, ro_0_8, ro_0_9, ro_0_10, ro_0_11, ro_0_12, ro_1_0, ro_1_1, ro_2_0, ro_4_0, ro_6_0, ro_6_1, ro_6_2, ro_6_3, ro_6_4, ro_6_5, ro_6_6, ro_6_7, ro_6_8, ro_8_0, ro_10_0, ro_12_0, ro_14_0, ro_16_0, ro_18_0, ro_20_0, ro_22_0, ro_22_1, ro_22_2, ro_23_0, ro_25_0, ro_27_0, ro_29_0, ro_29_1, ro_29_2, ro_29_3, ro_29_4, ro_29_5, ro_29_6, ro_29_7, ro_29_8, ro_31_0, ro_33_0, ro_35_0, ro_37_0, ro_39_0, ro_41_0, ro_43_0, ro_45_0, ro_45_1, ro_45_2, ro_46_0, ro_48_0, ro_50_0, ro_52_0, ro_52_1, ro_52_2, ro_52_3, ro_53_0, ro_55_0, ro_57_0, ro_59_0, ro_61_0, ro_61_1, ro_61_2, ro_61_3, ro_62_0, ro_64_0, ro_66_0, ro_68_0, ro_70_0, ro_70_1, ro_70_2, ro_70_3, ro_70_4, ro_70_5, ro_70_6, ro_70_7, ro_70_8, ro_70_9, ro_71_0, ro_73_0, ro_75_0, ro_77_0, ro_79_0, ro_81_0, ro_83_0, ro_85_0, ro_87_0, ro_89_0, ro_91_0, ro_91_1, ro_91_2, ro_91_3, ro_91_4, ro_91_5, ro_91_6, ro_91_7, ro_91_8, ro_91_9, ro_92_0, ro_94_0, ro_96_0, ro_98_0, ro_100_0, ro_102_0, ro_104_0, ro_106_0, ro_108_0, ro_110_0, ro_112_0, ro_112_1, ro_112_2, ro_112_3, ro_112_4, ro_112_5, ro_112_6, ro_112_7, ro_112_8, ro_112_9, ro_113_0, ro_115_0, ro_117_0, ro_119_0, ro_121_0, ro_123_0, ro_125_0, ro_127_0, ro_129_0, ro_131_0, ro_133_0, ro_133_1, ro_133_2, ro_133_3, ro_133_4, ro_133_5, ro_133_6, ro_133_7, ro_133_8, ro_133_9, ro_134_0, ro_136_0, ro_138_0, ro_140_0, ro_142_0, ro_144_0, ro_146_0, ro_148_0, ro_150_0, ro_152_0, ro_154_0, ro_155_0, ro_157_0, ro_157_1, ro_157_2, ro_157_3, ro_157_4, ro_157_5, ro_157_6, ro_157_7, ro_157_8, ro_157_9, ro_158_0, ro_160_0, ro_162_0, ro_164_0, ro_166_0, ro_168_0, ro_170_0, ro_172_0, ro_174_0, ro_176_0, ro_178_0, ro_180_0, ro_182_1, ro_182_4, ro_182_5, ro_182_6, ro_182_9, ro_182_10, ro_182_11, ro_182_13, ro_182_14, ro_182_15, ro_182_16, ro_182_17, ro_182_20, ro_182_21, ro_182_22, ro_182_23, ro_182_24, ro_182_26, ro_182_27, ro_182_28, lo_3, lo_5, lo_7, lo_9, lo_11, lo_13, lo_15, lo_17, lo_19, lo_21, lo_24, lo_26, lo_28, lo_30, lo_32, lo_34, lo_36, lo_38, lo_40, lo_42, lo_44, lo_47, lo_49, lo_51, lo_54, lo_56, lo_58, lo_60, lo_63, lo_65, lo_67, lo_69, lo_72, lo_74, lo_76, lo_78, lo_80, lo_82, lo_84, lo_86, lo_88, lo_90, lo_93, lo_95, lo_97, lo_99, lo_101, lo_103, lo_105, lo_107, lo_109, lo_111, lo_114, lo_116, lo_118, lo_120, lo_122, lo_124, lo_126, lo_128, lo_130, lo_132, lo_135, lo_137, lo_139, lo_141, lo_143, lo_145, lo_147, lo_149, lo_151, lo_153, lo_156, lo_159, lo_161, lo_163, lo_165, lo_167, lo_169, lo_171, lo_173, lo_175, lo_177, lo_179, lo_181, lo_183, lo_184, lo_185, lo_186, lo_187, lo_188, lo_189, lo_190, lo_191, lo_192, lo_193, lo_194, lo_195, lo_196, lo_197, lo_198, lo_199, lo_200, lo_201, lo_202, lo_203, jp_nn, jp_eq, jp_e1, Classical.not_not, ji0, ji1, ji2, cs23_54, kk_54, cs23_57, kk_57, cs23_58, kk_58, cs23_156, kk_156, jl_0, jl_1, jl_2, jl_3, jl_4, jl_5, jl_6, jl_7, jl_8, jl_9, jl_10, jl_11, jl_12, jl_13, jl_14, jl_15, jl_16, jl_17, jl_18, jl_19, jl_20, jl_21, jl_22, jl_23, jl_24, jl_25, jl_26, jl_27, jl_28, jl_29, jl_30, jl_31, jl_32, jl_33, jl_34, jl_35, jl_36, jl_37, jl_38, jl_39, jl_40, jl_95, jl_96, jl_97, jl_98, jl_99, jl_100, jl_101, jl_102, jl_103, jl_104, jl_105, jl_106, jl_107, jl_108, jl_109, jl_110, jl_111, jl_112, jl_113, jl_114, jl_186, jl_1100, jr, ju, jpT, jpF, tnc, Nat.reduceEqDiff, reduceIte, and_false, false_and, not_true_eq_false, not_false_eq_true, or_false, gt_iff_lt, ge_iff_le, Int.lt_irrefl, Int.le_refl, em, y, y2, ek, ev_w]
        refine ⟨70, m, 0, hb_w, rfl, rfl, by omega, rfl, by decide, fun h3 f3_w g3_w => ⟨m + 1, rfl, by omega, fun x k z => (f3_w x k (by omega)).trans (z2 x k z), fun k z => (f3_w 72 k (by decide)).trans (z3 k z), fun q z x' hx' s hs => ?_⟩⟩
        rw [g3_w]
        by_cases yq : q = m
        · subst yq
          rw [if_pos (by omega)]
          rw [hx] at hx'
          cases hx'
          rfl
        · rw [if_neg (by omega)]
          exact z4 q (by omega) x' hx' s hs
      · have y2 : (D.2.2.2.2.1.length : Int) ≤ (m : Int) := by omega
        have ek : m = D.2.2.2.2.1.length := by omega
        subst ek
        simp only [qe_1, qe_3, qe_4, qe_5, qe_7, qe_72, qe_10, qe_102, qe_13, qe_14, qe_15, qe_16, qe_17, qe_18, qe_20, qe_22, qe_23, qe_21, qe_24, qe_25, qe_26, qe_27, qe_28, qe_30, qe_31, qe_32, qc_20, qc_22, qc_23, qc_21, qc_24, qc_25, qc_26, qc_27, qc_1, qc_3, qc_4, qc_7, qc_13, qc_28, qc_32, qs_1, qs_2, qs_3, qs_4, qs_5, qs_6, qs_9, qs_10, qs_11, qs_14, qs_15, qs_16, qs_27, qs_17, qs_18, qs_19, qs_20, qs_22, qs_23, qs_28, qs_25, qs_26, qs_7, qs_8, kc_1, kn_1, kc_2, kn_2, kc_3, kn_3, kc_4, kn_4, kc_5, kn_5, kc_6, kn_6, kc_7, kn_7, kc_8, kn_8, kc_9, kn_9, kc_10, kn_10, kc_11, kn_11, kc_12, kn_12, kc_13, kn_13, kc_14, kn_14, kc_15, kn_15, kc_16, kc_17, kc_18, kc_19, kc_20, kc_21, kc_22, kc_23, kc_30, kc_32, kc_40, kc_43, kc_45, kc_48, kc_52, kc_56, kc_57, kc_59, kc_60, kc_61, kc_63, kc_64, kc_72, kc_78, kc_97, kc_99, kc_122, kc_126, kc_128, kc_192, kc_200, kc_255, kc_999, kc_1000, kc_9999, kn_9999, kc_10000, kc_12345, kc_65536, kc_252645135, kc_858993459, kc_1103515245, kc_1431655765, kc_2147483647, kc_0, kc_24, kc_28, kc_37, kc_41, kc_42, kc_73, kc_91, kc_95, kc_96, kc_98, kc_100, kc_112, kc_125, kc_150, kc_162, kc_163, kc_168, kc_186, kc_190, kc_250, kc_355, kc_356, kc_404, kc_405, kc_429, kc_573, kc_1002, kc_1100, kc_1891, kc_2200, kc_4719, kc_4869, kc_4881, kc_5148, kc_19741, kc_25433, kc_320403, kc_628412, kc_629093, kc_660401, kc_679843, kc_918640, kc_979410, kc_1178088, kc_6232410, kc_24644941, kc_36238189, kc_38270444, kc_392531318, kc_425693491, kc_1342154595, kc_2147483648, kc_42328242873, kc_891704255789, kc_1722105685577, kc_1858726030364, ct_0, ct_1, ct_2, ct_3, ct_4, ct_5, cf_0, cf_1, cf_2, cf_3, cf_4, cf_5, w_ty6, w_ty7, m_sv, m_z0, m_hd, m_g0, m_gs, m_s0, m_ss, m_ap, m_an, forall_const, true_and, and_true, ne_eq, not_true_eq_false, not_false_eq_true, false_implies, true_implies, implies_true, eq_self, reduceCtorEq, Nat.reduceDiv, Nat.reduceMod, Int.reduceToNat, or_true, true_or, or_false, false_or, or_self, m_it, m_if, m_c1, m_01, m_02, m_03, m_04, m_10, m_12, m_13, m_14, m_20, m_21, m_23, m_24, m_30, m_31, m_32, m_34, m_40, m_41, m_42, m_43, Int.reduceLE, Int.reduceLT, Int.reduceGE, Int.reduceGT, Int.reduceNeg, Int.reduceAdd, Int.reduceSub, Int.reduceMul, Int.reduceEq, Int.reduceNe, Nat.reduceAdd, jun2, ro_0_0, ro_0_1, ro_0_2, ro_0_3, ro_0_4, ro_0_5, ro_0_6, ro_0_7, ro_0_8, ro_0_9, ro_0_10, ro_0_11, ro_0_12, ro_1_0, ro_1_1, ro_2_0, ro_4_0, ro_6_0, ro_6_1, ro_6_2, ro_6_3, ro_6_4, ro_6_5, ro_6_6, ro_6_7, ro_6_8, ro_8_0, ro_10_0, ro_12_0, ro_14_0, ro_16_0, ro_18_0, ro_20_0, ro_22_0, ro_22_1, ro_22_2, ro_23_0, ro_25_0, ro_27_0, ro_29_0, ro_29_1, ro_29_2, ro_29_3, ro_29_4, ro_29_5, ro_29_6, ro_29_7, ro_29_8, ro_31_0, ro_33_0, ro_35_0, ro_37_0, ro_39_0, ro_41_0, ro_43_0, ro_45_0, ro_45_1, ro_45_2, ro_46_0, ro_48_0, ro_50_0, ro_52_0, ro_52_1, ro_52_2, ro_52_3, ro_53_0, ro_55_0, ro_57_0, ro_59_0, ro_61_0, ro_61_1, ro_61_2, ro_61_3, ro_62_0, ro_64_0, ro_66_0, ro_68_0, ro_70_0, ro_70_1, ro_70_2, ro_70_3, ro_70_4, ro_70_5, ro_70_6, ro_70_7, ro_70_8, ro_70_9, ro_71_0, ro_73_0, ro_75_0, ro_77_0, ro_79_0, ro_81_0, ro_83_0, ro_85_0, ro_87_0, ro_89_0, ro_91_0, ro_91_1, ro_91_2, ro_91_3, ro_91_4, ro_91_5, ro_91_6, ro_91_7, ro_91_8, ro_91_9, ro_92_0, ro_94_0, ro_96_0, ro_98_0, ro_100_0, ro_102_0, ro_104_0, ro_106_0, ro_108_0, ro_110_0, ro_112_0, ro_112_1, ro_112_2, ro_112_3, ro_112_4, ro_112_5, ro_112_6, ro_112_7, ro_112_8, ro_112_9, ro_113_0, ro_115_0, ro_117_0, ro_119_0, ro_121_0, ro_123_0, ro_125_0, ro_127_0, ro_129_0, ro_131_0, ro_133_0, ro_133_1, ro_133_2, ro_133_3, ro_133_4, ro_133_5, ro_133_6, ro_133_7, ro_133_8, ro_133_9, ro_134_0, ro_136_0, ro_138_0, ro_140_0, ro_142_0, ro_144_0, ro_146_0, ro_148_0, ro_150_0, ro_152_0, ro_154_0, ro_155_0, ro_157_0, ro_157_1, ro_157_2, ro_157_3, ro_157_4, ro_157_5, ro_157_6, ro_157_7, ro_157_8, ro_157_9, ro_158_0, ro_160_0, ro_162_0, ro_164_0, ro_166_0, ro_168_0, ro_170_0, ro_172_0, ro_174_0, ro_176_0, ro_178_0, ro_180_0, ro_182_1, ro_182_4, ro_182_5, ro_182_6, ro_182_9, ro_182_10, ro_182_11, ro_182_13, ro_182_14, ro_182_15, ro_182_16, ro_182_17, ro_182_20, ro_182_21, ro_182_22, ro_182_23, ro_182_24, ro_182_26, ro_182_27, ro_182_28, lo_3, lo_5, lo_7, lo_9, lo_11, lo_13, lo_15, lo_17, lo_19, lo_21, lo_24, lo_26, lo_28, lo_30, lo_32, lo_34, lo_36, lo_38, lo_40, lo_42, lo_44, lo_47, lo_49, lo_51, lo_54, lo_56, lo_58, lo_60, lo_63, lo_65, lo_67, lo_69, lo_72, lo_74, lo_76, lo_78, lo_80, lo_82, lo_84, lo_86, lo_88, lo_90, lo_93, lo_95, lo_97, lo_99, lo_101, lo_103, lo_105, lo_107, lo_109, lo_111, lo_114, lo_116, lo_118, lo_120, lo_122, lo_124, lo_126, lo_128, lo_130, lo_132, lo_135, lo_137, lo_139, lo_141, lo_143, lo_145, lo_147, lo_149, lo_151, lo_153, lo_156, lo_159, lo_161, lo_163, lo_165, lo_167, lo_169, lo_171, lo_173, lo_175, lo_177, lo_179, lo_181, lo_183, lo_184, lo_185, lo_186, lo_187, lo_188, lo_189, lo_190, lo_191, lo_192, lo_193, lo_194, lo_195, lo_196, lo_197, lo_198, lo_199, lo_200, lo_201, lo_202, lo_203, jp_nn, jp_eq, jp_e1, Classical.not_not, ji0, ji1, ji2, cs23_54, kk_54, cs23_57, kk_57, cs23_58, kk_58, cs23_156, kk_156, jl_0, jl_1, jl_2, jl_3, jl_4, jl_5, jl_6, jl_7, jl_8, jl_9, jl_10, jl_11, jl_12, jl_13, jl_14, jl_15, jl_16, jl_17, jl_18, jl_19, jl_20, jl_21, jl_22, jl_23, jl_24, jl_25, jl_26, jl_27, jl_28, jl_29, jl_30, jl_31, jl_32, jl_33, jl_34, jl_35, jl_36, jl_37, jl_38, jl_39, jl_40, jl_95, jl_96, jl_97, jl_98, jl_99, jl_100, jl_101, jl_102, jl_103, jl_104, jl_105, jl_106, jl_107, jl_108, jl_109, jl_110, jl_111, jl_112, jl_113, jl_114, jl_186, jl_1100, jr, ju, jpT, jpF, tnc, Nat.reduceEqDiff, reduceIte, and_false, false_and, not_true_eq_false, not_false_eq_true, or_false, gt_iff_lt, ge_iff_le, Int.lt_irrefl, Int.le_refl, em, y, y2]
        refine ⟨76, 9, 12, rfl, rfl, lo_76, lo_9, by decide, by decide, fun h3 f3_w g3_w => hQ _ (fun x k z => ?_) ⟨fun k z => ?_, fun q x hx s hs => ?_, fun s hs => ?_, ?_, ?_⟩⟩
        · rw [up_ne (by omega), up_ne (by omega), f3_w x k (by omega)]
          exact z2 x k (by omega)
        · rw [up_ne (by omega), up_ne (by omega), f3_w 72 k (by decide)]
          exact z3 k z
        · rw [up_ne (by omega), up_ne (by omega), f3_w 74 _ (by decide)]
          exact z4 q (lt_of_some hx) x hx s hs
        · rw [up_ne (by omega), up_ne (by omega), g3_w s hs]
          exact z2 9 s (by omega)
        · rw [up_ne (by omega), up_eq]
        · rw [up_eq]
    · simp only [qe_1, qe_3, qe_4, qe_5, qe_7, qe_72, qe_10, qe_102, qe_13, qe_14, qe_15, qe_16, qe_17, qe_18, qe_20, qe_22, qe_23, qe_21, qe_24, qe_25, qe_26, qe_27, qe_28, qe_30, qe_31, qe_32, qc_20, qc_22, qc_23, qc_21, qc_24, qc_25, qc_26, qc_27, qc_1, qc_3, qc_4, qc_7, qc_13, qc_28, qc_32, qs_1, qs_2, qs_3, qs_4, qs_5, qs_6, qs_9, qs_10, qs_11, qs_14, qs_15, qs_16, qs_27, qs_17, qs_18, qs_19, qs_20, qs_22, qs_23, qs_28, qs_25, qs_26, qs_7, qs_8, kc_1, kn_1, kc_2, kn_2, kc_3, kn_3, kc_4, kn_4, kc_5, kn_5, kc_6, kn_6, kc_7, kn_7, kc_8, kn_8, kc_9, kn_9, kc_10, kn_10, kc_11, kn_11, kc_12, kn_12, kc_13, kn_13, kc_14, kn_14, kc_15, kn_15, kc_16, kc_17, kc_18, kc_19, kc_20, kc_21, kc_22, kc_23, kc_30, kc_32, kc_40, kc_43, kc_45, kc_48, kc_52, kc_56, kc_57, kc_59, kc_60, kc_61, kc_63, kc_64, kc_72, kc_78, kc_97, kc_99, kc_122, kc_126, kc_128, kc_192, kc_200, kc_255, kc_999, kc_1000, kc_9999, kn_9999, kc_10000, kc_12345, kc_65536, kc_252645135, kc_858993459, kc_1103515245, kc_1431655765, kc_2147483647, kc_0, kc_24, kc_28, kc_37, kc_41, kc_42, kc_73, kc_91, kc_95, kc_96, kc_98, kc_100, kc_112, kc_125, kc_150, kc_162, kc_163, kc_168, kc_186, kc_190, kc_250, kc_355, kc_356, kc_404, kc_405, kc_429, kc_573, kc_1002, kc_1100, kc_1891, kc_2200, kc_4719, kc_4869, kc_4881, kc_5148, kc_19741, kc_25433, kc_320403, kc_628412, kc_629093, kc_660401, kc_679843, kc_918640, kc_979410, kc_1178088, kc_6232410, kc_24644941, kc_36238189, kc_38270444, kc_392531318, kc_425693491, kc_1342154595, kc_2147483648, kc_42328242873, kc_891704255789, kc_1722105685577, kc_1858726030364, ct_0, ct_1, ct_2, ct_3, ct_4, ct_5, cf_0, cf_1, cf_2, cf_3, cf_4, cf_5, w_ty6, w_ty7, m_sv, m_z0, m_hd, m_g0, m_gs, m_s0, m_ss, m_ap, m_an, forall_const, true_and, and_true, ne_eq, not_true_eq_false, not_false_eq_true, false_implies, true_implies, implies_true, eq_self, reduceCtorEq, Nat.reduceDiv, Nat.reduceMod, Int.reduceToNat, or_true, true_or, or_false, false_or, or_self, m_it, m_if, m_c1, m_01, m_02, m_03, m_04, m_10, m_12, m_13, m_14, m_20, m_21, m_23, m_24, m_30, m_31, m_32, m_34, m_40, m_41, m_42, m_43, Int.reduceLE, Int.reduceLT, Int.reduceGE, Int.reduceGT, Int.reduceNeg, Int.reduceAdd, Int.reduceSub, Int.reduceMul, Int.reduceEq, Int.reduceNe, Nat.reduceAdd, jun2, ro_0_0, ro_0_1, ro_0_2, ro_0_3, ro_0_4, ro_0_5, ro_0_6, ro_0_7, ro_0_8, ro_0_9, ro_0_10, ro_0_11, ro_0_12, ro_1_0, ro_1_1, ro_2_0, ro_4_0, ro_6_0, ro_6_1, ro_6_2, ro_6_3, ro_6_4, ro_6_5, ro_6_6, ro_6_7, ro_6_8, ro_8_0, ro_10_0, ro_12_0, ro_14_0, ro_16_0, ro_18_0, ro_20_0, ro_22_0, ro_22_1, ro_22_2, ro_23_0, ro_25_0, ro_27_0, ro_29_0, ro_29_1, ro_29_2, ro_29_3, ro_29_4, ro_29_5, ro_29_6, ro_29_7, ro_29_8, ro_31_0, ro_33_0, ro_35_0, ro_37_0, ro_39_0, ro_41_0, ro_43_0, ro_45_0, ro_45_1, ro_45_2, ro_46_0, ro_48_0, ro_50_0, ro_52_0, ro_52_1, ro_52_2, ro_52_3, ro_53_0, ro_55_0, ro_57_0, ro_59_0, ro_61_0, ro_61_1, ro_61_2, ro_61_3, ro_62_0, ro_64_0, ro_66_0, ro_68_0, ro_70_0, ro_70_1, ro_70_2, ro_70_3, ro_70_4, ro_70_5, ro_70_6, ro_70_7, ro_70_8, ro_70_9, ro_71_0, ro_73_0, ro_75_0, ro_77_0, ro_79_0, ro_81_0, ro_83_0, ro_85_0, ro_87_0, ro_89_0, ro_91_0, ro_91_1, ro_91_2, ro_91_3, ro_91_4, ro_91_5, ro_91_6, ro_91_7, ro_91_8, ro_91_9, ro_92_0, ro_94_0, ro_96_0, ro_98_0, ro_100_0, ro_102_0, ro_104_0, ro_106_0, ro_108_0, ro_110_0, ro_112_0, ro_112_1, ro_112_2, ro_112_3, ro_112_4, ro_112_5, ro_112_6, ro_112_7, ro_112_8, ro_112_9, ro_113_0, ro_115_0, ro_117_0, ro_119_0, ro_121_0, ro_123_0, ro_125_0, ro_127_0, ro_129_0, ro_131_0, ro_133_0, ro_133_1, ro_133_2, ro_133_3, ro_133_4, ro_133_5, ro_133_6, ro_133_7, ro_133_8, ro_133_9, ro_134_0, ro_136_0, ro_138_0, ro_140_0, ro_142_0, ro_144_0, ro_146_0, ro_148_0, ro_150_0, ro_152_0, ro_154_0, ro_155_0, ro_157_0, ro_157_1, ro_157_2, ro_157_3, ro_157_4, ro_157_5, ro_157_6, ro_157_7, ro_157_8, ro_157_9, ro_158_0, ro_160_0, ro_162_0, ro_164_0, ro_166_0, ro_168_0, ro_170_0, ro_172_0, ro_174_0, ro_176_0, ro_178_0, ro_180_0, ro_182_1, ro_182_4, ro_182_5, ro_182_6, ro_182_9, ro_182_10, ro_182_11, ro_182_13, ro_182_14, ro_182_15, ro_182_16, ro_182_17, ro_182_20, ro_182_21, ro_182_22, ro_182_23, ro_182_24, ro_182_26, ro_182_27, ro_182_28, lo_3, lo_5, lo_7, lo_9, lo_11, lo_13, lo_15, lo_17, lo_19, lo_21, lo_24, lo_26, lo_28, lo_30, lo_32, lo_34, lo_36, lo_38, lo_40, lo_42, lo_44, lo_47, lo_49, lo_51, lo_54, lo_56, lo_58, lo_60, lo_63, lo_65, lo_67, lo_69, lo_72, lo_74, lo_76, lo_78, lo_80, lo_82, lo_84, lo_86, lo_88, lo_90, lo_93, lo_95, lo_97, lo_99, lo_101, lo_103, lo_105, lo_107, lo_109, lo_111, lo_114, lo_116, lo_118, lo_120, lo_122, lo_124, lo_126, lo_128, lo_130, lo_132, lo_135, lo_137, lo_139, lo_141, lo_143, lo_145, lo_147, lo_149, lo_151, lo_153, lo_156, lo_159, lo_161, lo_163, lo_165, lo_167, lo_169, lo_171, lo_173, lo_175, lo_177, lo_179, lo_181, lo_183, lo_184, lo_185, lo_186, lo_187, lo_188, lo_189, lo_190, lo_191, lo_192, lo_193, lo_194, lo_195, lo_196, lo_197, lo_198, lo_199, lo_200, lo_201, lo_202, lo_203, jp_nn, jp_eq, jp_e1, Classical.not_not, ji0, ji1, ji2, cs23_54, kk_54, cs23_57, kk_57, cs23_58, kk_58, cs23_156, kk_156, jl_0, jl_1, jl_2, jl_3, jl_4, jl_5, jl_6, jl_7, jl_8, jl_9, jl_10, jl_11, jl_12, jl_13, jl_14, jl_15, jl_16, jl_17, jl_18, jl_19, jl_20, jl_21, jl_22, jl_23, jl_24, jl_25, jl_26, jl_27, jl_28, jl_29, jl_30, jl_31, jl_32, jl_33, jl_34, jl_35, jl_36, jl_37, jl_38, jl_39, jl_40, jl_95, jl_96, jl_97, jl_98, jl_99, jl_100, jl_101, jl_102, jl_103, jl_104, jl_105, jl_106, jl_107, jl_108, jl_109, jl_110, jl_111, jl_112, jl_113, jl_114, jl_186, jl_1100, jr, ju, jpT, jpF, tnc, Nat.reduceEqDiff, reduceIte, and_false, false_and, not_true_eq_false, not_false_eq_true, or_false, gt_iff_lt, ge_iff_le, Int.lt_irrefl, Int.le_refl]
      refine ⟨93, 78, rfl, lo_93, by decide, fun h1 f1_w g1 => ?_⟩
      refine qp_lp (fun en h' => ∃ m : Nat, en = [91, 6, (m : Int)] ∧ m ≤ D.2.2.2.2.1.length ∧ (∀ x k : Nat, ¬ (x = 93 ∨ x = 95) → h' x k = h x k) ∧ (∀ k : Nat, k < 78 → h' 93 k = -1) ∧ ∀ q : Nat, q < m → ∀ x, D.2.2.2.2.1[q]? = some x → ∀ s : Nat, s < 12 → h' 95 (12 * q + s) = x.2.2.2) ⟨0, rfl, Nat.zero_le _, fun x k z => f1_w x k (by omega), g1, fun q z => by omega⟩ ?_
      intro en h2 ⟨m, e5_w, z1, z2, z3, z4⟩
      subst e5_w
      have em : h2 6 12 = (D.2.2.2.2.1.length : Int) := (z2 6 12 (by omega)).trans c3
      by_cases y : (m : Int) < (D.2.2.2.2.1.length : Int)
      · have y2 : ¬ (D.2.2.2.2.1.length : Int) ≤ (m : Int) := by omega
        have ek := jk1 (k := m) (by omega)
        obtain ⟨x, hx⟩ : ∃ x, D.2.2.2.2.1[m]? = some x := ⟨_, List.getElem?_eq_getElem (by omega)⟩
        have ev_w : rg h2 20 (m : Int) = x.2.2.2 := (rg_in (o := 20) (c := 21) (n := 6) ro_20_0 lo_21 (by omega)).trans ((z2 21 m (by omega)).trans (d4_w.1 m x hx).2.2)
        simp only [qe_1, qe_3, qe_4, qe_5, qe_7, qe_72, qe_10, qe_102, qe_13, qe_14, qe_15, qe_16, qe_17, qe_18, qe_20, qe_22, qe_23, qe_21, qe_24, qe_25, qe_26, qe_27, qe_28, qe_30, qe_31, qe_32, qc_20, qc_22, qc_23, qc_21, qc_24, qc_25, qc_26, qc_27, qc_1, qc_3, qc_4, qc_7, qc_13, qc_28, qc_32, qs_1, qs_2, qs_3, qs_4, qs_5, qs_6, qs_9, qs_10, qs_11, qs_14, qs_15, qs_16, qs_27, qs_17, qs_18, qs_19, qs_20, qs_22, qs_23, qs_28, qs_25, qs_26, qs_7, qs_8, kc_1, kn_1, kc_2, kn_2, kc_3, kn_3, kc_4, kn_4, kc_5, kn_5, kc_6, kn_6, kc_7, kn_7, kc_8, kn_8, kc_9, kn_9, kc_10, kn_10, kc_11, kn_11, kc_12, kn_12, kc_13, kn_13, kc_14, kn_14, kc_15, kn_15, kc_16, kc_17, kc_18, kc_19, kc_20, kc_21, kc_22, kc_23, kc_30, kc_32, kc_40, kc_43, kc_45, kc_48, kc_52, kc_56, kc_57, kc_59, kc_60, kc_61, kc_63, kc_64, kc_72, kc_78, kc_97, kc_99, kc_122, kc_126, kc_128, kc_192, kc_200, kc_255, kc_999, kc_1000, kc_9999, kn_9999, kc_10000, kc_12345, kc_65536, kc_252645135, kc_858993459, kc_1103515245, kc_1431655765, kc_2147483647, kc_0, kc_24, kc_28, kc_37, kc_41, kc_42, kc_73, kc_91, kc_95, kc_96, kc_98, kc_100, kc_112, kc_125, kc_150, kc_162, kc_163, kc_168, kc_186, kc_190, kc_250, kc_355, kc_356, kc_404, kc_405, kc_429, kc_573, kc_1002, kc_1100, kc_1891, kc_2200, kc_4719, kc_4869, kc_4881, kc_5148, kc_19741, kc_25433, kc_320403, kc_628412, kc_629093, kc_660401, kc_679843, kc_918640, kc_979410, kc_1178088, kc_6232410, kc_24644941, kc_36238189, kc_38270444, kc_392531318, kc_425693491, kc_1342154595, kc_2147483648, kc_42328242873, kc_891704255789, kc_1722105685577, kc_1858726030364, ct_0, ct_1, ct_2, ct_3, ct_4, ct_5, cf_0, cf_1, cf_2, cf_3, cf_4, cf_5, w_ty6, w_ty7, m_sv, m_z0, m_hd, m_g0, m_gs, m_s0, m_ss, m_ap, m_an, forall_const, true_and, and_true, ne_eq, not_true_eq_false, not_false_eq_true, false_implies, true_implies, implies_true, eq_self, reduceCtorEq, Nat.reduceDiv, Nat.reduceMod, Int.reduceToNat, or_true, true_or, or_false, false_or, or_self, m_it, m_if, m_c1, m_01, m_02, m_03, m_04, m_10, m_12, m_13, m_14, m_20, m_21, m_23, m_24, m_30, m_31, m_32, m_34, m_40, m_41, m_42, m_43, Int.reduceLE, Int.reduceLT, Int.reduceGE, Int.reduceGT, Int.reduceNeg, Int.reduceAdd, Int.reduceSub, Int.reduceMul, Int.reduceEq, Int.reduceNe, Nat.reduceAdd, jun2, ro_0_0, ro_0_1, ro_0_2, ro_0_3, ro_0_4, ro_0_5, ro_0_6, ro_0_7, ro_0_8, ro_0_9, ro_0_10, ro_0_11, ro_0_12, ro_1_0, ro_1_1, ro_2_0, ro_4_0, ro_6_0, ro_6_1, ro_6_2, ro_6_3, ro_6_4, ro_6_5, ro_6_6, ro_6_7, ro_6_8, ro_8_0, ro_10_0, ro_12_0, ro_14_0, ro_16_0, ro_18_0, ro_20_0, ro_22_0, ro_22_1, ro_22_2, ro_23_0, ro_25_0, ro_27_0, ro_29_0, ro_29_1, ro_29_2, ro_29_3, ro_29_4, ro_29_5, ro_29_6, ro_29_7, ro_29_8, ro_31_0, ro_33_0, ro_35_0, ro_37_0, ro_39_0, ro_41_0, ro_43_0, ro_45_0, ro_45_1, ro_45_2, ro_46_0, ro_48_0, ro_50_0, ro_52_0, ro_52_1, ro_52_2, ro_52_3, ro_53_0, ro_55_0, ro_57_0, ro_59_0, ro_61_0, ro_61_1, ro_61_2, ro_61_3, ro_62_0, ro_64_0, ro_66_0, ro_68_0, ro_70_0, ro_70_1, ro_70_2, ro_70_3, ro_70_4, ro_70_5, ro_70_6, ro_70_7, ro_70_8, ro_70_9, ro_71_0, ro_73_0, ro_75_0, ro_77_0, ro_79_0, ro_81_0, ro_83_0, ro_85_0, ro_87_0, ro_89_0, ro_91_0, ro_91_1, ro_91_2, ro_91_3, ro_91_4, ro_91_5, ro_91_6, ro_91_7, ro_91_8, ro_91_9, ro_92_0, ro_94_0, ro_96_0, ro_98_0, ro_100_0, ro_102_0, ro_104_0, ro_106_0, ro_108_0, ro_110_0, ro_112_0, ro_112_1, ro_112_2, ro_112_3, ro_112_4, ro_112_5, ro_112_6, ro_112_7, ro_112_8, ro_112_9, ro_113_0, ro_115_0, ro_117_0, ro_119_0, ro_121_0, ro_123_0, ro_125_0, ro_127_0, ro_129_0, ro_131_0, ro_133_0, ro_133_1, ro_133_2, ro_133_3, ro_133_4, ro_133_5, ro_133_6, ro_133_7, ro_133_8, ro_133_9, ro_134_0, ro_136_0, ro_138_0, ro_140_0, ro_142_0, ro_144_0, ro_146_0, ro_148_0, ro_150_0, ro_152_0, ro_154_0, ro_155_0, ro_157_0, ro_157_1, ro_157_2, ro_157_3, ro_157_4, ro_157_5, ro_157_6, ro_157_7, ro_157_8, ro_157_9, ro_158_0, ro_160_0, ro_162_0, ro_164_0, ro_166_0, ro_168_0, ro_170_0, ro_172_0, ro_174_0, ro_176_0, ro_178_0, ro_180_0, ro_182_1, ro_182_4, ro_182_5, ro_182_6, ro_182_9, ro_182_10, ro_182_11, ro_182_13, ro_182_14, ro_182_15, ro_182_16, ro_182_17, ro_182_20, ro_182_21, ro_182_22, ro_182_23, ro_182_24, ro_182_26, ro_182_27, ro_182_28, lo_3, lo_5, lo_7, lo_9, lo_11, lo_13, lo_15, lo_17, lo_19, lo_21, lo_24, lo_26, lo_28, lo_30, lo_32, lo_34, lo_36, lo_38, lo_40, lo_42, lo_44, lo_47, lo_49, lo_51, lo_54, lo_56, lo_58, lo_60, lo_63, lo_65, lo_67, lo_69, lo_72, lo_74, lo_76, lo_78, lo_80, lo_82, lo_84, lo_86, lo_88, lo_90, lo_93, lo_95, lo_97, lo_99, lo_101, lo_103, lo_105, lo_107, lo_109, lo_111, lo_114, lo_116, lo_118, lo_120, lo_122, lo_124, lo_126, lo_128, lo_130, lo_132, lo_135, lo_137, lo_139, lo_141, lo_143, lo_145, lo_147, lo_149, lo_151, lo_153, lo_156, lo_159, lo_161, lo_163, lo_165, lo_167, lo_169, lo_171, lo_173, lo_175, lo_177, lo_179, lo_181, lo_183, lo_184, lo_185, lo_186, lo_187, lo_188, lo_189, lo_190, lo_191, lo_192, lo_193, lo_194, lo_195, lo_196, lo_197, lo_198, lo_199, lo_200, lo_201, lo_202, lo_203, jp_nn, jp_eq, jp_e1, Classical.not_not, ji0, ji1, ji2, cs23_54, kk_54, cs23_57, kk_57, cs23_58, kk_58, cs23_156, kk_156, jl_0, jl_1, jl_2, jl_3, jl_4, jl_5, jl_6, jl_7, jl_8, jl_9, jl_10, jl_11, jl_12, jl_13, jl_14, jl_15, jl_16, jl_17, jl_18, jl_19, jl_20, jl_21, jl_22, jl_23, jl_24, jl_25, jl_26, jl_27, jl_28, jl_29, jl_30, jl_31, jl_32, jl_33, jl_34, jl_35, jl_36, jl_37, jl_38, jl_39, jl_40, jl_95, jl_96, jl_97, jl_98, jl_99, jl_100, jl_101, jl_102, jl_103, jl_104, jl_105, jl_106, jl_107, jl_108, jl_109, jl_110, jl_111, jl_112, jl_113, jl_114, jl_186, jl_1100, jr, ju, jpT, jpF, tnc, Nat.reduceEqDiff, reduceIte, and_false, false_and, not_true_eq_false, not_false_eq_true, or_false, gt_iff_lt, ge_iff_le, Int.lt_irrefl, Int.le_refl, em, y, y2, ek, ev_w]
        refine ⟨91, m, 0, hb_w, rfl, rfl, by omega, rfl, by decide, fun h3 f3_w g3_w => ⟨m + 1, rfl, by omega, fun x k z => (f3_w x k (by omega)).trans (z2 x k z), fun k z => (f3_w 93 k (by decide)).trans (z3 k z), fun q z x' hx' s hs => ?_⟩⟩
        rw [g3_w]
        by_cases yq : q = m
        · subst yq
          rw [if_pos (by omega)]
          rw [hx] at hx'
          cases hx'
          rfl
        · rw [if_neg (by omega)]
          exact z4 q (by omega) x' hx' s hs
      · have y2 : (D.2.2.2.2.1.length : Int) ≤ (m : Int) := by omega
        have ek : m = D.2.2.2.2.1.length := by omega
        subst ek
        simp only [qe_1, qe_3, qe_4, qe_5, qe_7, qe_72, qe_10, qe_102, qe_13, qe_14, qe_15, qe_16, qe_17, qe_18, qe_20, qe_22, qe_23, qe_21, qe_24, qe_25, qe_26, qe_27, qe_28, qe_30, qe_31, qe_32, qc_20, qc_22, qc_23, qc_21, qc_24, qc_25, qc_26, qc_27, qc_1, qc_3, qc_4, qc_7, qc_13, qc_28, qc_32, qs_1, qs_2, qs_3, qs_4, qs_5, qs_6, qs_9, qs_10, qs_11, qs_14, qs_15, qs_16, qs_27, qs_17, qs_18, qs_19, qs_20, qs_22, qs_23, qs_28, qs_25, qs_26, qs_7, qs_8, kc_1, kn_1, kc_2, kn_2, kc_3, kn_3, kc_4, kn_4, kc_5, kn_5, kc_6, kn_6, kc_7, kn_7, kc_8, kn_8, kc_9, kn_9, kc_10, kn_10, kc_11, kn_11, kc_12, kn_12, kc_13, kn_13, kc_14, kn_14, kc_15, kn_15, kc_16, kc_17, kc_18, kc_19, kc_20, kc_21, kc_22, kc_23, kc_30, kc_32, kc_40, kc_43, kc_45, kc_48, kc_52, kc_56, kc_57, kc_59, kc_60, kc_61, kc_63, kc_64, kc_72, kc_78, kc_97, kc_99, kc_122, kc_126, kc_128, kc_192, kc_200, kc_255, kc_999, kc_1000, kc_9999, kn_9999, kc_10000, kc_12345, kc_65536, kc_252645135, kc_858993459, kc_1103515245, kc_1431655765, kc_2147483647, kc_0, kc_24, kc_28, kc_37, kc_41, kc_42, kc_73, kc_91, kc_95, kc_96, kc_98, kc_100, kc_112, kc_125, kc_150, kc_162, kc_163, kc_168, kc_186, kc_190, kc_250, kc_355, kc_356, kc_404, kc_405, kc_429, kc_573, kc_1002, kc_1100, kc_1891, kc_2200, kc_4719, kc_4869, kc_4881, kc_5148, kc_19741, kc_25433, kc_320403, kc_628412, kc_629093, kc_660401, kc_679843, kc_918640, kc_979410, kc_1178088, kc_6232410, kc_24644941, kc_36238189, kc_38270444, kc_392531318, kc_425693491, kc_1342154595, kc_2147483648, kc_42328242873, kc_891704255789, kc_1722105685577, kc_1858726030364, ct_0, ct_1, ct_2, ct_3, ct_4, ct_5, cf_0, cf_1, cf_2, cf_3, cf_4, cf_5, w_ty6, w_ty7, m_sv, m_z0, m_hd, m_g0, m_gs, m_s0, m_ss, m_ap, m_an, forall_const, true_and, and_true, ne_eq, not_true_eq_false, not_false_eq_true, false_implies, true_implies, implies_true, eq_self, reduceCtorEq, Nat.reduceDiv, Nat.reduceMod, Int.reduceToNat, or_true, true_or, or_false, false_or, or_self, m_it, m_if, m_c1, m_01, m_02, m_03, m_04, m_10, m_12, m_13, m_14, m_20, m_21, m_23, m_24, m_30, m_31, m_32, m_34, m_40, m_41, m_42, m_43, Int.reduceLE, Int.reduceLT, Int.reduceGE, Int.reduceGT, Int.reduceNeg, Int.reduceAdd, Int.reduceSub, Int.reduceMul, Int.reduceEq, Int.reduceNe, Nat.reduceAdd, jun2, ro_0_0, ro_0_1, ro_0_2, ro_0_3, ro_0_4, ro_0_5, ro_0_6, ro_0_7, ro_0_8, ro_0_9, ro_0_10, ro_0_11, ro_0_12, ro_1_0, ro_1_1, ro_2_0, ro_4_0, ro_6_0, ro_6_1, ro_6_2, ro_6_3, ro_6_4, ro_6_5, ro_6_6, ro_6_7, ro_6_8, ro_8_0, ro_10_0, ro_12_0, ro_14_0, ro_16_0, ro_18_0, ro_20_0, ro_22_0, ro_22_1, ro_22_2, ro_23_0, ro_25_0, ro_27_0, ro_29_0, ro_29_1, ro_29_2, ro_29_3, ro_29_4, ro_29_5, ro_29_6, ro_29_7, ro_29_8, ro_31_0, ro_33_0, ro_35_0, ro_37_0, ro_39_0, ro_41_0, ro_43_0, ro_45_0, ro_45_1, ro_45_2, ro_46_0, ro_48_0, ro_50_0, ro_52_0, ro_52_1, ro_52_2, ro_52_3, ro_53_0, ro_55_0, ro_57_0, ro_59_0, ro_61_0, ro_61_1, ro_61_2, ro_61_3, ro_62_0, ro_64_0, ro_66_0, ro_68_0, ro_70_0, ro_70_1, ro_70_2, ro_70_3, ro_70_4, ro_70_5, ro_70_6, ro_70_7, ro_70_8, ro_70_9, ro_71_0, ro_73_0, ro_75_0, ro_77_0, ro_79_0, ro_81_0, ro_83_0, ro_85_0, ro_87_0, ro_89_0, ro_91_0, ro_91_1, ro_91_2, ro_91_3, ro_91_4, ro_91_5, ro_91_6, ro_91_7, ro_91_8, ro_91_9, ro_92_0, ro_94_0, ro_96_0, ro_98_0, ro_100_0, ro_102_0, ro_104_0, ro_106_0, ro_108_0, ro_110_0, ro_112_0, ro_112_1, ro_112_2, ro_112_3, ro_112_4, ro_112_5, ro_112_6, ro_112_7, ro_112_8, ro_112_9, ro_113_0, ro_115_0, ro_117_0, ro_119_0, ro_121_0, ro_123_0, ro_125_0, ro_127_0, ro_129_0, ro_131_0, ro_133_0, ro_133_1, ro_133_2, ro_133_3, ro_133_4, ro_133_5, ro_133_6, ro_133_7, ro_133_8, ro_133_9, ro_134_0, ro_136_0, ro_138_0, ro_140_0, ro_142_0, ro_144_0, ro_146_0, ro_148_0, ro_150_0, ro_152_0, ro_154_0, ro_155_0, ro_157_0, ro_157_1, ro_157_2, ro_157_3, ro_157_4, ro_157_5, ro_157_6, ro_157_7, ro_157_8, ro_157_9, ro_158_0, ro_160_0, ro_162_0, ro_164_0, ro_166_0, ro_168_0, ro_170_0, ro_172_0, ro_174_0, ro_176_0, ro_178_0, ro_180_0, ro_182_1, ro_182_4, ro_182_5, ro_182_6, ro_182_9, ro_182_10, ro_182_11, ro_182_13, ro_182_14, ro_182_15, ro_182_16, ro_182_17, ro_182_20, ro_182_21, ro_182_22, ro_182_23, ro_182_24, ro_182_26, ro_182_27, ro_182_28, lo_3, lo_5, lo_7, lo_9, lo_11, lo_13, lo_15, lo_17, lo_19, lo_21, lo_24, lo_26, lo_28, lo_30, lo_32, lo_34, lo_36, lo_38, lo_40, lo_42, lo_44, lo_47, lo_49, lo_51, lo_54, lo_56, lo_58, lo_60, lo_63, lo_65, lo_67, lo_69, lo_72, lo_74, lo_76, lo_78, lo_80, lo_82, lo_84, lo_86, lo_88, lo_90, lo_93, lo_95, lo_97, lo_99, lo_101, lo_103, lo_105, lo_107, lo_109, lo_111, lo_114, lo_116, lo_118, lo_120, lo_122, lo_124, lo_126, lo_128, lo_130, lo_132, lo_135, lo_137, lo_139, lo_141, lo_143, lo_145, lo_147, lo_149, lo_151, lo_153, lo_156, lo_159, lo_161, lo_163, lo_165, lo_167, lo_169, lo_171, lo_173, lo_175, lo_177, lo_179, lo_181, lo_183, lo_184, lo_185, lo_186, lo_187, lo_188, lo_189, lo_190, lo_191, lo_192, lo_193, lo_194, lo_195, lo_196, lo_197, lo_198, lo_199, lo_200, lo_201, lo_202, lo_203, jp_nn, jp_eq, jp_e1, Classical.not_not, ji0, ji1, ji2, cs23_54, kk_54, cs23_57, kk_57, cs23_58, kk_58, cs23_156, kk_156, jl_0, jl_1, jl_2, jl_3, jl_4, jl_5, jl_6, jl_7, jl_8, jl_9, jl_10, jl_11, jl_12, jl_13, jl_14, jl_15, jl_16, jl_17, jl_18, jl_19, jl_20, jl_21, jl_22, jl_23, jl_24, jl_25, jl_26, jl_27, jl_28, jl_29, jl_30, jl_31, jl_32, jl_33, jl_34, jl_35, jl_36, jl_37, jl_38, jl_39, jl_40, jl_95, jl_96, jl_97, jl_98, jl_99, jl_100, jl_101, jl_102, jl_103, jl_104, jl_105, jl_106, jl_107, jl_108, jl_109, jl_110, jl_111, jl_112, jl_113, jl_114, jl_186, jl_1100, jr, ju, jpT, jpF, tnc, Nat.reduceEqDiff, reduceIte, and_false, false_and, not_true_eq_false, not_false_eq_true, or_false, gt_iff_lt, ge_iff_le, Int.lt_irrefl, Int.le_refl, em, y, y2]
        refine ⟨97, 9, 12, rfl, rfl, lo_97, lo_9, by decide, by decide, fun h3 f3_w g3_w => hQ _ (fun x k z => ?_) ⟨fun k z => ?_, fun q x hx s hs => ?_, fun s hs => ?_, ?_, ?_⟩⟩
        · rw [up_ne (by omega), up_ne (by omega), f3_w x k (by omega)]
          exact z2 x k (by omega)
        · rw [up_ne (by omega), up_ne (by omega), f3_w 93 k (by decide)]
          exact z3 k z
        · rw [up_ne (by omega), up_ne (by omega), f3_w 95 _ (by decide)]
          exact z4 q (lt_of_some hx) x hx s hs
        · rw [up_ne (by omega), up_ne (by omega), g3_w s hs]
          exact z2 9 s (by omega)
        · rw [up_ne (by omega), up_eq]
        · rw [up_eq]
  · exact hQ.elim
theorem m_3s : BodyOK CS23 CS23 3 := fun av h Q hQ => by
  rw [cs23_3] at hQ
  unfold k3s at hQ
  split at hQ
  · rename_i o
    obtain ⟨rfl, D, cd, hQ⟩ := hQ
    show pS CS23 bb_3 [0] h _
    unfold bb_3
    simp only [qe_1, qe_3, qe_4, qe_5, qe_7, qe_72, qe_10, qe_102, qe_13, qe_14, qe_15, qe_16, qe_17, qe_18, qe_20, qe_22, qe_23, qe_21, qe_24, qe_25, qe_26, qe_27, qe_28, qe_30, qe_31, qe_32, qc_20, qc_22, qc_23, qc_21, qc_24, qc_25, qc_26, qc_27, qc_1, qc_3, qc_4, qc_7, qc_13, qc_28, qc_32, qs_1, qs_2, qs_3, qs_4, qs_5, qs_6, qs_9, qs_10, qs_11, qs_14, qs_15, qs_16, qs_27, qs_17, qs_18, qs_19, qs_20, qs_22, qs_23, qs_28, qs_25, qs_26, qs_7, qs_8, kc_1, kn_1, kc_2, kn_2, kc_3, kn_3, kc_4, kn_4, kc_5, kn_5, kc_6, kn_6, kc_7, kn_7, kc_8, kn_8, kc_9, kn_9, kc_10, kn_10, kc_11, kn_11, kc_12, kn_12, kc_13, kn_13, kc_14, kn_14, kc_15, kn_15, kc_16, kc_17, kc_18, kc_19, kc_20, kc_21, kc_22, kc_23, kc_30, kc_32, kc_40, kc_43, kc_45, kc_48, kc_52, kc_56, kc_57, kc_59, kc_60, kc_61, kc_63, kc_64, kc_72, kc_78, kc_97, kc_99, kc_122, kc_126, kc_128, kc_192, kc_200, kc_255, kc_999, kc_1000, kc_9999, kn_9999, kc_10000, kc_12345, kc_65536, kc_252645135, kc_858993459, kc_1103515245, kc_1431655765, kc_2147483647, kc_0, kc_24, kc_28, kc_37, kc_41, kc_42, kc_73, kc_91, kc_95, kc_96, kc_98, kc_100, kc_112, kc_125, kc_150, kc_162, kc_163, kc_168, kc_186, kc_190, kc_250, kc_355, kc_356, kc_404, kc_405, kc_429, kc_573, kc_1002, kc_1100, kc_1891, kc_2200, kc_4719, kc_4869, kc_4881, kc_5148, kc_19741, kc_25433, kc_320403, kc_628412, kc_629093, kc_660401, kc_679843, kc_918640, kc_979410, kc_1178088, kc_6232410, kc_24644941, kc_36238189, kc_38270444, kc_392531318, kc_425693491, kc_1342154595, kc_2147483648, kc_42328242873, kc_891704255789, kc_1722105685577, kc_1858726030364, ct_0, ct_1, ct_2, ct_3, ct_4, ct_5, cf_0, cf_1, cf_2, cf_3, cf_4, cf_5, w_ty6, w_ty7, m_sv, m_z0, m_hd, m_g0, m_gs, m_s0, m_ss, m_ap, m_an, forall_const, true_and, and_true, ne_eq, not_true_eq_false, not_false_eq_true, false_implies, true_implies, implies_true, eq_self, reduceCtorEq, Nat.reduceDiv, Nat.reduceMod, Int.reduceToNat, or_true, true_or, or_false, false_or, or_self, m_it, m_if, m_c1, m_01, m_02, m_03, m_04, m_10, m_12, m_13, m_14, m_20, m_21, m_23, m_24, m_30, m_31, m_32, m_34, m_40, m_41, m_42, m_43, Int.reduceLE, Int.reduceLT, Int.reduceGE, Int.reduceGT, Int.reduceNeg, Int.reduceAdd, Int.reduceSub, Int.reduceMul, Int.reduceEq, Int.reduceNe, Nat.reduceAdd, jun2, ro_0_0, ro_0_1, ro_0_2, ro_0_3, ro_0_4, ro_0_5, ro_0_6, ro_0_7, ro_0_8, ro_0_9, ro_0_10, ro_0_11, ro_0_12, ro_1_0, ro_1_1, ro_2_0, ro_4_0, ro_6_0, ro_6_1, ro_6_2, ro_6_3, ro_6_4, ro_6_5, ro_6_6, ro_6_7, ro_6_8, ro_8_0, ro_10_0, ro_12_0, ro_14_0, ro_16_0, ro_18_0, ro_20_0, ro_22_0, ro_22_1, ro_22_2, ro_23_0, ro_25_0, ro_27_0, ro_29_0, ro_29_1, ro_29_2, ro_29_3, ro_29_4, ro_29_5, ro_29_6, ro_29_7, ro_29_8, ro_31_0, ro_33_0, ro_35_0, ro_37_0, ro_39_0, ro_41_0, ro_43_0, ro_45_0, ro_45_1, ro_45_2, ro_46_0, ro_48_0, ro_50_0, ro_52_0, ro_52_1, ro_52_2, ro_52_3, ro_53_0, ro_55_0, ro_57_0, ro_59_0, ro_61_0, ro_61_1, ro_61_2, ro_61_3, ro_62_0, ro_64_0, ro_66_0, ro_68_0, ro_70_0, ro_70_1, ro_70_2, ro_70_3, ro_70_4, ro_70_5, ro_70_6, ro_70_7, ro_70_8, ro_70_9, ro_71_0, ro_73_0, ro_75_0, ro_77_0, ro_79_0, ro_81_0, ro_83_0, ro_85_0, ro_87_0, ro_89_0, ro_91_0, ro_91_1, ro_91_2, ro_91_3, ro_91_4, ro_91_5, ro_91_6, ro_91_7, ro_91_8, ro_91_9, ro_92_0, ro_94_0, ro_96_0, ro_98_0, ro_100_0, ro_102_0, ro_104_0, ro_106_0, ro_108_0, ro_110_0, ro_112_0, ro_112_1, ro_112_2, ro_112_3, ro_112_4, ro_112_5, ro_112_6, ro_112_7, ro_112_8, ro_112_9, ro_113_0, ro_115_0, ro_117_0, ro_119_0, ro_121_0, ro_123_0, ro_125_0, ro_127_0, ro_129_0, ro_131_0, ro_133_0, ro_133_1, ro_133_2, ro_133_3, ro_133_4, ro_133_5, ro_133_6, ro_133_7, ro_133_8, ro_133_9, ro_134_0, ro_136_0, ro_138_0, ro_140_0, ro_142_0, ro_144_0, ro_146_0, ro_148_0, ro_150_0, ro_152_0, ro_154_0, ro_155_0, ro_157_0, ro_157_1, ro_157_2, ro_157_3, ro_157_4, ro_157_5, ro_157_6, ro_157_7, ro_157_8, ro_157_9, ro_158_0, ro_160_0, ro_162_0, ro_164_0, ro_166_0, ro_168_0, ro_170_0, ro_172_0, ro_174_0, ro_176_0, ro_178_0, ro_180_0, ro_182_1, ro_182_4, ro_182_5, ro_182_6, ro_182_9, ro_182_10, ro_182_11, ro_182_13, ro_182_14, ro_182_15, ro_182_16, ro_182_17, ro_182_20, ro_182_21, ro_182_22, ro_182_23, ro_182_24, ro_182_26, ro_182_27, ro_182_28, lo_3, lo_5, lo_7, lo_9, lo_11, lo_13, lo_15, lo_17, lo_19, lo_21, lo_24, lo_26, lo_28, lo_30, lo_32, lo_34, lo_36, lo_38, lo_40, lo_42, lo_44, lo_47, lo_49, lo_51, lo_54, lo_56, lo_58, lo_60, lo_63, lo_65, lo_67, lo_69, lo_72, lo_74, lo_76, lo_78, lo_80, lo_82, lo_84, lo_86, lo_88, lo_90, lo_93, lo_95, lo_97, lo_99, lo_101, lo_103, lo_105, lo_107, lo_109, lo_111, lo_114, lo_116, lo_118, lo_120, lo_122, lo_124, lo_126, lo_128, lo_130, lo_132, lo_135, lo_137, lo_139, lo_141, lo_143, lo_145, lo_147, lo_149, lo_151, lo_153, lo_156, lo_159, lo_161, lo_163, lo_165, lo_167, lo_169, lo_171, lo_173, lo_175, lo_177, lo_179, lo_181, lo_183, lo_184, lo_185, lo_186, lo_187, lo_188, lo_189, lo_190, lo_191, lo_192, lo_193, lo_194, lo_195, lo_196, lo_197, lo_198, lo_199, lo_200, lo_201, lo_202, lo_203, jp_nn, jp_eq, jp_e1, Classical.not_not, ji0, ji1, ji2, cs23_142, kk_142, jl_0, jl_1, jl_2, jl_3, jl_4, jl_5, jl_6, jl_7, jl_8, jl_9, jl_10, jl_11, jl_12, jl_13, jl_14, jl_15, jl_16, jl_17, jl_18, jl_19, jl_20, jl_21, jl_22, jl_23, jl_24, jl_25, jl_26, jl_27, jl_28, jl_29, jl_30, jl_31, jl_32, jl_33, jl_34, jl_35, jl_36, jl_37, jl_38, jl_39, jl_40, jl_95, jl_96, jl_97, jl_98, jl_99, jl_100, jl_101, jl_102, jl_103, jl_104, jl_105, jl_106, jl_107, jl_108, jl_109, jl_110, jl_111, jl_112, jl_113, jl_114, jl_186, jl_1100, jr, ju, jpT, jpF, tnc, Nat.reduceEqDiff, reduceIte, and_false, false_and, not_true_eq_false, not_false_eq_true, or_false, gt_iff_lt, ge_iff_le, Int.lt_irrefl, Int.le_refl]
    refine ⟨70, D, Or.inl rfl, rfl, cd, fun h1 f1_w lb => hQ _ (fun x k z => ?_) ⟨⟨fun k z => ?_, fun m x hx s hs => ?_, fun s hs => ?_, ?_, ?_⟩, ?_, ?_, ?_, ?_, ?_⟩⟩
    · rw [up_ne (by omega), up_ne (by omega), up_ne (by omega), up_ne (by omega), up_ne (by omega)]
      exact f1_w x k (by omega)
    · rw [up_ne (by omega), up_ne (by omega), up_ne (by omega), up_ne (by omega), up_ne (by omega)]
      exact lb.1 k z
    · rw [up_ne (by omega), up_ne (by omega), up_ne (by omega), up_ne (by omega), up_ne (by omega)]
      exact lb.2.1 m x hx s hs
    · rw [up_ne (by omega), up_ne (by omega), up_ne (by omega), up_ne (by omega), up_ne (by omega)]
      refine (lb.2.2.1 s hs).trans ?_
      rw [up_ne (by omega), up_ne (by omega), up_ne (by omega), up_ne (by omega), up_ne (by omega)]
      exact (f1_w 9 s (by omega)).symm
    · rw [up_ne (by omega), up_ne (by omega), up_ne (by omega), up_ne (by omega), up_ne (by omega)]
      exact lb.2.2.2.1
    · rw [up_ne (by omega), up_ne (by omega), up_ne (by omega), up_ne (by omega), up_ne (by omega)]
      exact lb.2.2.2.2
    all_goals rfl
  · exact hQ.elim
theorem m_61z : BodyOK CS23 CS23 61 := fun av h Q hQ => by
  rw [cs23_61] at hQ
  unfold k61z at hQ
  split at hQ
  · rename_i o
    show pS CS23 bb_61 [o] h _
    unfold bb_61
    simp only [qe_1, qe_3, qe_4, qe_5, qe_7, qe_72, qe_10, qe_102, qe_13, qe_14, qe_15, qe_16, qe_17, qe_18, qe_20, qe_22, qe_23, qe_21, qe_24, qe_25, qe_26, qe_27, qe_28, qe_30, qe_31, qe_32, qc_20, qc_22, qc_23, qc_21, qc_24, qc_25, qc_26, qc_27, qc_1, qc_3, qc_4, qc_7, qc_13, qc_28, qc_32, qs_1, qs_2, qs_3, qs_4, qs_5, qs_6, qs_9, qs_10, qs_11, qs_14, qs_15, qs_16, qs_27, qs_17, qs_18, qs_19, qs_20, qs_22, qs_23, qs_28, qs_25, qs_26, qs_7, qs_8, kc_1, kn_1, kc_2, kn_2, kc_3, kn_3, kc_4, kn_4, kc_5, kn_5, kc_6, kn_6, kc_7, kn_7, kc_8, kn_8, kc_9, kn_9, kc_10, kn_10, kc_11, kn_11, kc_12, kn_12, kc_13, kn_13, kc_14, kn_14, kc_15, kn_15, kc_16, kc_17, kc_18, kc_19, kc_20, kc_21, kc_22, kc_23, kc_30, kc_32, kc_40, kc_43, kc_45, kc_48, kc_52, kc_56, kc_57, kc_59, kc_60, kc_61, kc_63, kc_64, kc_72, kc_78, kc_97, kc_99, kc_122, kc_126, kc_128, kc_192, kc_200, kc_255, kc_999, kc_1000, kc_9999, kn_9999, kc_10000, kc_12345, kc_65536, kc_252645135, kc_858993459, kc_1103515245, kc_1431655765, kc_2147483647, kc_0, kc_24, kc_28, kc_37, kc_41, kc_42, kc_73, kc_91, kc_95, kc_96, kc_98, kc_100, kc_112, kc_125, kc_150, kc_162, kc_163, kc_168, kc_186, kc_190, kc_250, kc_355, kc_356, kc_404, kc_405, kc_429, kc_573, kc_1002, kc_1100, kc_1891, kc_2200, kc_4719, kc_4869, kc_4881, kc_5148, kc_19741, kc_25433, kc_320403, kc_628412, kc_629093, kc_660401, kc_679843, kc_918640, kc_979410, kc_1178088, kc_6232410, kc_24644941, kc_36238189, kc_38270444, kc_392531318, kc_425693491, kc_1342154595, kc_2147483648, kc_42328242873, kc_891704255789, kc_1722105685577, kc_1858726030364, ct_0, ct_1, ct_2, ct_3, ct_4, ct_5, cf_0, cf_1, cf_2, cf_3, cf_4, cf_5, w_ty6, w_ty7, m_sv, m_z0, m_hd, m_g0, m_gs, m_s0, m_ss, m_ap, m_an, forall_const, true_and, and_true, ne_eq, not_true_eq_false, not_false_eq_true, false_implies, true_implies, implies_true, eq_self, reduceCtorEq, Nat.reduceDiv, Nat.reduceMod, Int.reduceToNat, or_true, true_or, or_false, false_or, or_self, m_it, m_if, m_c1, m_01, m_02, m_03, m_04, m_10, m_12, m_13, m_14, m_20, m_21, m_23, m_24, m_30, m_31, m_32, m_34, m_40, m_41, m_42, m_43, Int.reduceLE, Int.reduceLT, Int.reduceGE, Int.reduceGT, Int.reduceNeg, Int.reduceAdd, Int.reduceSub, Int.reduceMul, Int.reduceEq, Int.reduceNe, Nat.reduceAdd, jun2, ro_0_0, ro_0_1, ro_0_2, ro_0_3, ro_0_4, ro_0_5, ro_0_6, ro_0_7, ro_0_8, ro_0_9, ro_0_10, ro_0_11, ro_0_12, ro_1_0, ro_1_1, ro_2_0, ro_4_0, ro_6_0, ro_6_1, ro_6_2, ro_6_3, ro_6_4, ro_6_5, ro_6_6, ro_6_7, ro_6_8, ro_8_0, ro_10_0, ro_12_0, ro_14_0, ro_16_0, ro_18_0, ro_20_0, ro_22_0, ro_22_1, ro_22_2, ro_23_0, ro_25_0, ro_27_0, ro_29_0, ro_29_1, ro_29_2, ro_29_3, ro_29_4, ro_29_5, ro_29_6, ro_29_7, ro_29_8, ro_31_0, ro_33_0, ro_35_0, ro_37_0, ro_39_0, ro_41_0, ro_43_0, ro_45_0, ro_45_1, ro_45_2, ro_46_0, ro_48_0, ro_50_0, ro_52_0, ro_52_1, ro_52_2, ro_52_3, ro_53_0, ro_55_0, ro_57_0, ro_59_0, ro_61_0, ro_61_1, ro_61_2, ro_61_3, ro_62_0, ro_64_0, ro_66_0, ro_68_0, ro_70_0, ro_70_1, ro_70_2, ro_70_3, ro_70_4, ro_70_5, ro_70_6, ro_70_7, ro_70_8, ro_70_9, ro_71_0, ro_73_0, ro_75_0, ro_77_0, ro_79_0, ro_81_0, ro_83_0, ro_85_0, ro_87_0, ro_89_0, ro_91_0, ro_91_1, ro_91_2, ro_91_3, ro_91_4, ro_91_5, ro_91_6, ro_91_7, ro_91_8, ro_91_9, ro_92_0, ro_94_0, ro_96_0, ro_98_0, ro_100_0, ro_102_0, ro_104_0, ro_106_0, ro_108_0, ro_110_0, ro_112_0, ro_112_1, ro_112_2, ro_112_3, ro_112_4, ro_112_5, ro_112_6, ro_112_7, ro_112_8, ro_112_9, ro_113_0, ro_115_0, ro_117_0, ro_119_0, ro_121_0, ro_123_0, ro_125_0, ro_127_0, ro_129_0, ro_131_0, ro_133_0, ro_133_1, ro_133_2, ro_133_3, ro_133_4, ro_133_5, ro_133_6, ro_133_7, ro_133_8, ro_133_9, ro_134_0, ro_136_0, ro_138_0, ro_140_0, ro_142_0, ro_144_0, ro_146_0, ro_148_0, ro_150_0, ro_152_0, ro_154_0, ro_155_0, ro_157_0, ro_157_1, ro_157_2, ro_157_3, ro_157_4, ro_157_5, ro_157_6, ro_157_7, ro_157_8, ro_157_9, ro_158_0, ro_160_0, ro_162_0, ro_164_0, ro_166_0, ro_168_0, ro_170_0, ro_172_0, ro_174_0, ro_176_0, ro_178_0, ro_180_0, ro_182_1, ro_182_4, ro_182_5, ro_182_6, ro_182_9, ro_182_10, ro_182_11, ro_182_13, ro_182_14, ro_182_15, ro_182_16, ro_182_17, ro_182_20, ro_182_21, ro_182_22, ro_182_23, ro_182_24, ro_182_26, ro_182_27, ro_182_28, lo_3, lo_5, lo_7, lo_9, lo_11, lo_13, lo_15, lo_17, lo_19, lo_21, lo_24, lo_26, lo_28, lo_30, lo_32, lo_34, lo_36, lo_38, lo_40, lo_42, lo_44, lo_47, lo_49, lo_51, lo_54, lo_56, lo_58, lo_60, lo_63, lo_65, lo_67, lo_69, lo_72, lo_74, lo_76, lo_78, lo_80, lo_82, lo_84, lo_86, lo_88, lo_90, lo_93, lo_95, lo_97, lo_99, lo_101, lo_103, lo_105, lo_107, lo_109, lo_111, lo_114, lo_116, lo_118, lo_120, lo_122, lo_124, lo_126, lo_128, lo_130, lo_132, lo_135, lo_137, lo_139, lo_141, lo_143, lo_145, lo_147, lo_149, lo_151, lo_153, lo_156, lo_159, lo_161, lo_163, lo_165, lo_167, lo_169, lo_171, lo_173, lo_175, lo_177, lo_179, lo_181, lo_183, lo_184, lo_185, lo_186, lo_187, lo_188, lo_189, lo_190, lo_191, lo_192, lo_193, lo_194, lo_195, lo_196, lo_197, lo_198, lo_199, lo_200, lo_201, lo_202, lo_203, jp_nn, jp_eq, jp_e1, Classical.not_not, ji0, ji1, ji2, jl_0, jl_1, jl_2, jl_3, jl_4, jl_5, jl_6, jl_7, jl_8, jl_9, jl_10, jl_11, jl_12, jl_13, jl_14, jl_15, jl_16, jl_17, jl_18, jl_19, jl_20, jl_21, jl_22, jl_23, jl_24, jl_25, jl_26, jl_27, jl_28, jl_29, jl_30, jl_31, jl_32, jl_33, jl_34, jl_35, jl_36, jl_37, jl_38, jl_39, jl_40, jl_95, jl_96, jl_97, jl_98, jl_99, jl_100, jl_101, jl_102, jl_103, jl_104, jl_105, jl_106, jl_107, jl_108, jl_109, jl_110, jl_111, jl_112, jl_113, jl_114, jl_186, jl_1100, jr, ju, jpT, jpF, tnc, Nat.reduceEqDiff, reduceIte, and_false, false_and, not_true_eq_false, not_false_eq_true, or_false, gt_iff_lt, ge_iff_le, Int.lt_irrefl, Int.le_refl]
    exact hQ
  · exact hQ.elim
theorem m_2s : BodyOK CS23 CS23 2 := fun av h Q hQ => by
  rw [cs23_2] at hQ
  unfold k2s at hQ
  split at hQ
  · rename_i o
    obtain ⟨rfl, T, tN_w, byt, tok, tg, hE, q1_w, q2_w⟩ := hQ
    show pS CS23 bb_2 [0, 0] h _
    unfold bb_2
    simp only [qe_1, qe_3, qe_4, qe_5, qe_7, qe_72, qe_10, qe_102, qe_13, qe_14, qe_15, qe_16, qe_17, qe_18, qe_20, qe_22, qe_23, qe_21, qe_24, qe_25, qe_26, qe_27, qe_28, qe_30, qe_31, qe_32, qc_20, qc_22, qc_23, qc_21, qc_24, qc_25, qc_26, qc_27, qc_1, qc_3, qc_4, qc_7, qc_13, qc_28, qc_32, qs_1, qs_2, qs_3, qs_4, qs_5, qs_6, qs_9, qs_10, qs_11, qs_14, qs_15, qs_16, qs_27, qs_17, qs_18, qs_19, qs_20, qs_22, qs_23, qs_28, qs_25, qs_26, qs_7, qs_8, kc_1, kn_1, kc_2, kn_2, kc_3, kn_3, kc_4, kn_4, kc_5, kn_5, kc_6, kn_6, kc_7, kn_7, kc_8, kn_8, kc_9, kn_9, kc_10, kn_10, kc_11, kn_11, kc_12, kn_12, kc_13, kn_13, kc_14, kn_14, kc_15, kn_15, kc_16, kc_17, kc_18, kc_19, kc_20, kc_21, kc_22, kc_23, kc_30, kc_32, kc_40, kc_43, kc_45, kc_48, kc_52, kc_56, kc_57, kc_59, kc_60, kc_61, kc_63, kc_64, kc_72, kc_78, kc_97, kc_99, kc_122, kc_126, kc_128, kc_192, kc_200, kc_255, kc_999, kc_1000, kc_9999, kn_9999, kc_10000, kc_12345, kc_65536, kc_252645135, kc_858993459, kc_1103515245, kc_1431655765, kc_2147483647, kc_0, kc_24, kc_28, kc_37, kc_41, kc_42, kc_73, kc_91, kc_95, kc_96, kc_98, kc_100, kc_112, kc_125, kc_150, kc_162, kc_163, kc_168, kc_186, kc_190, kc_250, kc_355, kc_356, kc_404, kc_405, kc_429, kc_573, kc_1002, kc_1100, kc_1891, kc_2200, kc_4719, kc_4869, kc_4881, kc_5148, kc_19741, kc_25433, kc_320403, kc_628412, kc_629093, kc_660401, kc_679843, kc_918640, kc_979410, kc_1178088, kc_6232410, kc_24644941, kc_36238189, kc_38270444, kc_392531318, kc_425693491, kc_1342154595, kc_2147483648, kc_42328242873, kc_891704255789, kc_1722105685577, kc_1858726030364, ct_0, ct_1, ct_2, ct_3, ct_4, ct_5, cf_0, cf_1, cf_2, cf_3, cf_4, cf_5, w_ty6, w_ty7, m_sv, m_z0, m_hd, m_g0, m_gs, m_s0, m_ss, m_ap, m_an, forall_const, true_and, and_true, ne_eq, not_true_eq_false, not_false_eq_true, false_implies, true_implies, implies_true, eq_self, reduceCtorEq, Nat.reduceDiv, Nat.reduceMod, Int.reduceToNat, or_true, true_or, or_false, false_or, or_self, m_it, m_if, m_c1, m_01, m_02, m_03, m_04, m_10, m_12, m_13, m_14, m_20, m_21, m_23, m_24, m_30, m_31, m_32, m_34, m_40, m_41, m_42, m_43, Int.reduceLE, Int.reduceLT, Int.reduceGE, Int.reduceGT, Int.reduceNeg, Int.reduceAdd, Int.reduceSub, Int.reduceMul, Int.reduceEq, Int.reduceNe, Nat.reduceAdd, jun2, ro_0_0, ro_0_1, ro_0_2, ro_0_3, ro_0_4, ro_0_5, ro_0_6, ro_0_7, ro_0_8, ro_0_9, ro_0_10, ro_0_11, ro_0_12, ro_1_0, ro_1_1, ro_2_0, ro_4_0, ro_6_0, ro_6_1, ro_6_2, ro_6_3, ro_6_4, ro_6_5, ro_6_6, ro_6_7, ro_6_8, ro_8_0, ro_10_0, ro_12_0, ro_14_0, ro_16_0, ro_18_0, ro_20_0, ro_22_0, ro_22_1, ro_22_2, ro_23_0, ro_25_0, ro_27_0, ro_29_0, ro_29_1, ro_29_2, ro_29_3, ro_29_4, ro_29_5, ro_29_6, ro_29_7, ro_29_8, ro_31_0, ro_33_0, ro_35_0, ro_37_0, ro_39_0, ro_41_0, ro_43_0, ro_45_0, ro_45_1, ro_45_2, ro_46_0, ro_48_0, ro_50_0, ro_52_0, ro_52_1, ro_52_2, ro_52_3, ro_53_0, ro_55_0, ro_57_0, ro_59_0, ro_61_0, ro_61_1, ro_61_2, ro_61_3, ro_62_0, ro_64_0, ro_66_0, ro_68_0, ro_70_0, ro_70_1, ro_70_2, ro_70_3, ro_70_4, ro_70_5, ro_70_6, ro_70_7, ro_70_8, ro_70_9, ro_71_0, ro_73_0, ro_75_0, ro_77_0, ro_79_0, ro_81_0, ro_83_0, ro_85_0, ro_87_0, ro_89_0, ro_91_0, ro_91_1, ro_91_2, ro_91_3, ro_91_4, ro_91_5, ro_91_6, ro_91_7, ro_91_8, ro_91_9, ro_92_0, ro_94_0, ro_96_0, ro_98_0, ro_100_0, ro_102_0, ro_104_0, ro_106_0, ro_108_0, ro_110_0, ro_112_0, ro_112_1, ro_112_2, ro_112_3, ro_112_4, ro_112_5, ro_112_6, ro_112_7, ro_112_8, ro_112_9, ro_113_0, ro_115_0, ro_117_0, ro_119_0, ro_121_0, ro_123_0, ro_125_0, ro_127_0, ro_129_0, ro_131_0, ro_133_0, ro_133_1, ro_133_2, ro_133_3, ro_133_4, ro_133_5, ro_133_6, ro_133_7, ro_133_8, ro_133_9, ro_134_0, ro_136_0, ro_138_0, ro_140_0, ro_142_0, ro_144_0, ro_146_0, ro_148_0, ro_150_0, ro_152_0, ro_154_0, ro_155_0, ro_157_0, ro_157_1, ro_157_2, ro_157_3, ro_157_4, ro_157_5, ro_157_6, ro_157_7, ro_157_8, ro_157_9, ro_158_0, ro_160_0, ro_162_0, ro_164_0, ro_166_0, ro_168_0, ro_170_0, ro_172_0, ro_174_0, ro_176_0, ro_178_0, ro_180_0, ro_182_1, ro_182_4, ro_182_5, ro_182_6, ro_182_9, ro_182_10, ro_182_11, ro_182_13, ro_182_14, ro_182_15, ro_182_16, ro_182_17, ro_182_20, ro_182_21, ro_182_22, ro_182_23, ro_182_24, ro_182_26, ro_182_27, ro_182_28, lo_3, lo_5, lo_7, lo_9, lo_11, lo_13, lo_15, lo_17, lo_19, lo_21, lo_24, lo_26, lo_28, lo_30, lo_32, lo_34, lo_36, lo_38, lo_40, lo_42, lo_44, lo_47, lo_49, lo_51, lo_54, lo_56, lo_58, lo_60, lo_63, lo_65, lo_67, lo_69, lo_72, lo_74, lo_76, lo_78, lo_80, lo_82, lo_84, lo_86, lo_88, lo_90, lo_93, lo_95, lo_97, lo_99, lo_101, lo_103, lo_105, lo_107, lo_109, lo_111, lo_114, lo_116, lo_118, lo_120, lo_122, lo_124, lo_126, lo_128, lo_130, lo_132, lo_135, lo_137, lo_139, lo_141, lo_143, lo_145, lo_147, lo_149, lo_151, lo_153, lo_156, lo_159, lo_161, lo_163, lo_165, lo_167, lo_169, lo_171, lo_173, lo_175, lo_177, lo_179, lo_181, lo_183, lo_184, lo_185, lo_186, lo_187, lo_188, lo_189, lo_190, lo_191, lo_192, lo_193, lo_194, lo_195, lo_196, lo_197, lo_198, lo_199, lo_200, lo_201, lo_202, lo_203, jp_nn, jp_eq, jp_e1, Classical.not_not, ji0, ji1, ji2, cs23_119, kk_119, cs23_97, kk_97s, cs23_3, kk_3s, cs23_61, kk_61z, jl_0, jl_1, jl_2, jl_3, jl_4, jl_5, jl_6, jl_7, jl_8, jl_9, jl_10, jl_11, jl_12, jl_13, jl_14, jl_15, jl_16, jl_17, jl_18, jl_19, jl_20, jl_21, jl_22, jl_23, jl_24, jl_25, jl_26, jl_27, jl_28, jl_29, jl_30, jl_31, jl_32, jl_33, jl_34, jl_35, jl_36, jl_37, jl_38, jl_39, jl_40, jl_95, jl_96, jl_97, jl_98, jl_99, jl_100, jl_101, jl_102, jl_103, jl_104, jl_105, jl_106, jl_107, jl_108, jl_109, jl_110, jl_111, jl_112, jl_113, jl_114, jl_186, jl_1100, jr, ju, jpT, jpF, tnc, Nat.reduceEqDiff, reduceIte, and_false, false_and, not_true_eq_false, not_false_eq_true, or_false, gt_iff_lt, ge_iff_le, Int.lt_irrefl, Int.le_refl]
    refine ⟨T, tN_w, byt, tok, tg, fun f h1 e f1_w => ?_, fun D h1 e f1_w cd1 => ?_⟩
    · have y := hE f e
      simp only [qe_1, qe_3, qe_4, qe_5, qe_7, qe_72, qe_10, qe_102, qe_13, qe_14, qe_15, qe_16, qe_17, qe_18, qe_20, qe_22, qe_23, qe_21, qe_24, qe_25, qe_26, qe_27, qe_28, qe_30, qe_31, qe_32, qc_20, qc_22, qc_23, qc_21, qc_24, qc_25, qc_26, qc_27, qc_1, qc_3, qc_4, qc_7, qc_13, qc_28, qc_32, qs_1, qs_2, qs_3, qs_4, qs_5, qs_6, qs_9, qs_10, qs_11, qs_14, qs_15, qs_16, qs_27, qs_17, qs_18, qs_19, qs_20, qs_22, qs_23, qs_28, qs_25, qs_26, qs_7, qs_8, kc_1, kn_1, kc_2, kn_2, kc_3, kn_3, kc_4, kn_4, kc_5, kn_5, kc_6, kn_6, kc_7, kn_7, kc_8, kn_8, kc_9, kn_9, kc_10, kn_10, kc_11, kn_11, kc_12, kn_12, kc_13, kn_13, kc_14, kn_14, kc_15, kn_15, kc_16, kc_17, kc_18, kc_19, kc_20, kc_21, kc_22, kc_23, kc_30, kc_32, kc_40, kc_43, kc_45, kc_48, kc_52, kc_56, kc_57, kc_59, kc_60, kc_61, kc_63, kc_64, kc_72, kc_78, kc_97, kc_99, kc_122, kc_126, kc_128, kc_192, kc_200, kc_255, kc_999, kc_1000, kc_9999, kn_9999, kc_10000, kc_12345, kc_65536, kc_252645135, kc_858993459, kc_1103515245, kc_1431655765, kc_2147483647, kc_0, kc_24, kc_28, kc_37, kc_41, kc_42, kc_73, kc_91, kc_95, kc_96, kc_98, kc_100, kc_112, kc_125, kc_150, kc_162, kc_163, kc_168, kc_186, kc_190, kc_250, kc_355, kc_356, kc_404, kc_405, kc_429, kc_573, kc_1002, kc_1100, kc_1891, kc_2200, kc_4719, kc_4869, kc_4881, kc_5148, kc_19741, kc_25433, kc_320403, kc_628412, kc_629093, kc_660401, kc_679843, kc_918640, kc_979410, kc_1178088, kc_6232410, kc_24644941, kc_36238189, kc_38270444, kc_392531318, kc_425693491, kc_1342154595, kc_2147483648, kc_42328242873, kc_891704255789, kc_1722105685577, kc_1858726030364, ct_0, ct_1, ct_2, ct_3, ct_4, ct_5, cf_0, cf_1, cf_2, cf_3, cf_4, cf_5, w_ty6, w_ty7, m_sv, m_z0, m_hd, m_g0, m_gs, m_s0, m_ss, m_ap, m_an, forall_const, true_and, and_true, ne_eq, not_true_eq_false, not_false_eq_true, false_implies, true_implies, implies_true, eq_self, reduceCtorEq, Nat.reduceDiv, Nat.reduceMod, Int.reduceToNat, or_true, true_or, or_false, false_or, or_self, m_it, m_if, m_c1, m_01, m_02, m_03, m_04, m_10, m_12, m_13, m_14, m_20, m_21, m_23, m_24, m_30, m_31, m_32, m_34, m_40, m_41, m_42, m_43, Int.reduceLE, Int.reduceLT, Int.reduceGE, Int.reduceGT, Int.reduceNeg, Int.reduceAdd, Int.reduceSub, Int.reduceMul, Int.reduceEq, Int.reduceNe, Nat.reduceAdd, jun2, ro_0_0, ro_0_1, ro_0_2, ro_0_3, ro_0_4, ro_0_5, ro_0_6, ro_0_7, ro_0_8, ro_0_9, ro_0_10, ro_0_11, ro_0_12, ro_1_0, ro_1_1, ro_2_0, ro_4_0, ro_6_0, ro_6_1, ro_6_2, ro_6_3, ro_6_4, ro_6_5, ro_6_6, ro_6_7, ro_6_8, ro_8_0, ro_10_0, ro_12_0, ro_14_0, ro_16_0, ro_18_0, ro_20_0, ro_22_0, ro_22_1, ro_22_2, ro_23_0, ro_25_0, ro_27_0, ro_29_0, ro_29_1, ro_29_2, ro_29_3, ro_29_4, ro_29_5, ro_29_6, ro_29_7, ro_29_8, ro_31_0, ro_33_0, ro_35_0, ro_37_0, ro_39_0, ro_41_0, ro_43_0, ro_45_0, ro_45_1, ro_45_2, ro_46_0, ro_48_0, ro_50_0, ro_52_0, ro_52_1, ro_52_2, ro_52_3, ro_53_0, ro_55_0, ro_57_0, ro_59_0, ro_61_0, ro_61_1, ro_61_2, ro_61_3, ro_62_0, ro_64_0, ro_66_0, ro_68_0, ro_70_0, ro_70_1, ro_70_2, ro_70_3, ro_70_4, ro_70_5, ro_70_6, ro_70_7, ro_70_8, ro_70_9, ro_71_0, ro_73_0, ro_75_0, ro_77_0, ro_79_0, ro_81_0, ro_83_0, ro_85_0, ro_87_0, ro_89_0, ro_91_0, ro_91_1, ro_91_2, ro_91_3, ro_91_4, ro_91_5, ro_91_6, ro_91_7, ro_91_8, ro_91_9, ro_92_0, ro_94_0, ro_96_0, ro_98_0, ro_100_0, ro_102_0, ro_104_0, ro_106_0, ro_108_0, ro_110_0, ro_112_0, ro_112_1, ro_112_2, ro_112_3, ro_112_4, ro_112_5, ro_112_6, ro_112_7, ro_112_8, ro_112_9, ro_113_0, ro_115_0, ro_117_0, ro_119_0, ro_121_0, ro_123_0, ro_125_0, ro_127_0, ro_129_0, ro_131_0, ro_133_0, ro_133_1, ro_133_2, ro_133_3, ro_133_4, ro_133_5, ro_133_6, ro_133_7, ro_133_8, ro_133_9, ro_134_0, ro_136_0, ro_138_0, ro_140_0, ro_142_0, ro_144_0, ro_146_0, ro_148_0, ro_150_0, ro_152_0, ro_154_0, ro_155_0, ro_157_0, ro_157_1, ro_157_2, ro_157_3, ro_157_4, ro_157_5, ro_157_6, ro_157_7, ro_157_8, ro_157_9, ro_158_0, ro_160_0, ro_162_0, ro_164_0, ro_166_0, ro_168_0, ro_170_0, ro_172_0, ro_174_0, ro_176_0, ro_178_0, ro_180_0, ro_182_1, ro_182_4, ro_182_5, ro_182_6, ro_182_9, ro_182_10, ro_182_11, ro_182_13, ro_182_14, ro_182_15, ro_182_16, ro_182_17, ro_182_20, ro_182_21, ro_182_22, ro_182_23, ro_182_24, ro_182_26, ro_182_27, ro_182_28, lo_3, lo_5, lo_7, lo_9, lo_11, lo_13, lo_15, lo_17, lo_19, lo_21, lo_24, lo_26, lo_28, lo_30, lo_32, lo_34, lo_36, lo_38, lo_40, lo_42, lo_44, lo_47, lo_49, lo_51, lo_54, lo_56, lo_58, lo_60, lo_63, lo_65, lo_67, lo_69, lo_72, lo_74, lo_76, lo_78, lo_80, lo_82, lo_84, lo_86, lo_88, lo_90, lo_93, lo_95, lo_97, lo_99, lo_101, lo_103, lo_105, lo_107, lo_109, lo_111, lo_114, lo_116, lo_118, lo_120, lo_122, lo_124, lo_126, lo_128, lo_130, lo_132, lo_135, lo_137, lo_139, lo_141, lo_143, lo_145, lo_147, lo_149, lo_151, lo_153, lo_156, lo_159, lo_161, lo_163, lo_165, lo_167, lo_169, lo_171, lo_173, lo_175, lo_177, lo_179, lo_181, lo_183, lo_184, lo_185, lo_186, lo_187, lo_188, lo_189, lo_190, lo_191, lo_192, lo_193, lo_194, lo_195, lo_196, lo_197, lo_198, lo_199, lo_200, lo_201, lo_202, lo_203, jp_nn, jp_eq, jp_e1, Classical.not_not, ji0, ji1, ji2, cs23_119, kk_119, cs23_97, kk_97s, cs23_3, kk_3s, cs23_61, kk_61z, jl_0, jl_1, jl_2, jl_3, jl_4, jl_5, jl_6, jl_7, jl_8, jl_9, jl_10, jl_11, jl_12, jl_13, jl_14, jl_15, jl_16, jl_17, jl_18, jl_19, jl_20, jl_21, jl_22, jl_23, jl_24, jl_25, jl_26, jl_27, jl_28, jl_29, jl_30, jl_31, jl_32, jl_33, jl_34, jl_35, jl_36, jl_37, jl_38, jl_39, jl_40, jl_95, jl_96, jl_97, jl_98, jl_99, jl_100, jl_101, jl_102, jl_103, jl_104, jl_105, jl_106, jl_107, jl_108, jl_109, jl_110, jl_111, jl_112, jl_113, jl_114, jl_186, jl_1100, jr, ju, jpT, jpF, tnc, Nat.reduceEqDiff, reduceIte, and_false, false_and, not_true_eq_false, not_false_eq_true, or_false, gt_iff_lt, ge_iff_le, Int.lt_irrefl, Int.le_refl, y]
      refine q1_w f _ e (fun o k z1 z2 z3 => ?_) (fun k => ?_) up_eq
      · rw [up_ne (by omega)]
        exact f1_w o k (by omega)
      · rw [up_ne (by omega)]
        exact f1_w 0 k (by omega)
    · have cd2 : CD 29 D (j_up h1 2 1 0) := cd1.fr (fun o k a b => up_ne (by omega))
      intro h2 f2_w cp_w
      have cw := cp_w.cd cd2
      refine ⟨D, cw, fun h3 f3_w bg => q2_w D h3 e (fun o k z => ?_) ?_ (cw.fr (fun o k a b => f3_w o k (by omega))) bg⟩
      · rw [f3_w o k (by omega), f2_w o k (by omega), up_ne (by omega)]
        exact f1_w o k (by omega)
      · rw [f3_w 2 1 (by omega), f2_w 2 1 (by omega), up_eq]
  · exact hQ.elim
theorem snd_23 {xs : Nat → Int} {L K : Nat} : ∀ n, SndC CS23 (evF xs L g_ck K g_cW g_M n) := snd_all snd_22 (fun f av h Q hQ => by
  unfold CS23 at hQ
  split at hQ
  · exact Or.inr m_156
  · exact Or.inr m_142
  · exact Or.inr m_3s
  · exact Or.inr m_61z
  · exact Or.inr m_2s
  · exact Or.inl hQ)
end
section
/-! ===== contracts: the reference's grid with what it leaves ===== -/
/-- a grid that was told_w, or_w the one at the beginning -/
def OKD (D : DD) : Prop := D = DD0 ∨ ∃ (S P V W : Nat → Int) (n i : Nat), sGrid S P V W n DD0 i = .ok D
/-- what is_w in force is_w what a draft said_w -/
def RF (D : DD) (h : XH) : Prop := OKD D ∧ ∃ h0 : XH, RD D h0 ∧ (∀ q : Nat, q < 95 → h 188 q = h0 188 (95 + q)) ∧ (∀ q : Nat, (q : Int) < h0 182 12 → h 189 q = h0 189 (1100 + q)) ∧ ∀ q : Nat, q < 14 → h 190 q = h0 190 (14 + q)
/-- a state_w as_w it begins -/
def SBc (b M S : Nat) (h h' : XH) : Prop := ∀ q : Nat, q < 404 → h' 194 (b + q) = if q < 78 then -1 else if q < 78 + 12 * M then h 188 (75 + 3 * ((q - 78) / 12)) else if 150 ≤ q ∧ q < 150 + S then h 188 (5 + (q - 150)) else 0
def k240s : KT := fun av h Q => match av with
  | [t, a] => t = 182 ∧ ∃ b M S : Nat, a = (b : Int) ∧ b ≤ 4719 ∧ h 188 3 = (M : Int) ∧ M ≤ 6 ∧ h 188 0 = (S : Int) ∧ S ≤ 12 ∧ ∀ h', Fr ([], [194]) h h' → (∀ q : Nat, ¬ (b ≤ q ∧ q < b + 404) → h' 194 q = h 194 q) → SBc b M S h h' → Q 1 [] h'
  | _ => False
/-- the reference_w as_w a grid leaves it -/
def BGR (M S : Nat) (h' : XH) : Prop := SBc 0 M S h' h' ∧ h' 194 404 = 0 ∧ h' 191 0 = 0 ∧ h' 182 18 = 0 ∧ h' 182 19 = 0 ∧ h' 195 0 = 0 ∧ h' 195 1 = 0
def k241s : KT := fun av h Q => match av with
  | [t] => t = 182 ∧ ∃ M S : Nat, h 188 3 = (M : Int) ∧ M ≤ 6 ∧ h 188 0 = (S : Int) ∧ S ≤ 12 ∧ ∀ h', Fr ([18, 19], [191, 194, 195]) h h' → BGR M S h' → Q 1 [] h'
  | _ => False
def k206s : KT := fun av h Q => match av with
  | [t] => t = 182 ∧ ∃ n : Nat, h 182 2 = (n : Int) ∧ n ≤ 1000 ∧ ∀ r h', (∃ N S P V, TOK (h 183) n N S P V ∧ ((∃ f, 0 < f ∧ sGrid S P V (h 187) 1001 DD0 0 = .error f ∧ r = f ∧ KF h h' ∧ h' 194 = h 194 ∧ h' 191 = h 191 ∧ h' 195 = h 195 ∧ h' 182 18 = h 182 18 ∧ h' 182 19 = h 182 19) ∨ (∃ D, sGrid S P V (h 187) 1001 DD0 0 = .ok D ∧ r = 0 ∧ RF D h' ∧ BGR D.2.2.2.2.1.length D.1.toNat h'))) → Q 1 [r] h'
  | _ => False
section KKF4
variable {h h1 h2 h' : XH} {Q : Nat → List Int → XH → Prop} {a : Int} {D : DD}
theorem kk_240s : k240s [182, a] h Q = ∃ b M S : Nat, a = (b : Int) ∧ b ≤ 4719 ∧ h 188 3 = (M : Int) ∧ M ≤ 6 ∧ h 188 0 = (S : Int) ∧ S ≤ 12 ∧ ∀ h', Fr ([], [194]) h h' → (∀ q : Nat, ¬ (b ≤ q ∧ q < b + 404) → h' 194 q = h 194 q) → SBc b M S h h' → Q 1 [] h' := propext ⟨fun a => a.2, fun a => ⟨rfl, a⟩⟩
theorem kk_241s : k241s [182] h Q = ∃ M S : Nat, h 188 3 = (M : Int) ∧ M ≤ 6 ∧ h 188 0 = (S : Int) ∧ S ≤ 12 ∧ ∀ h', Fr ([18, 19], [191, 194, 195]) h h' → BGR M S h' → Q 1 [] h' := propext ⟨fun a => a.2, fun a => ⟨rfl, a⟩⟩
theorem kk_206s : k206s [182] h Q = ∃ n : Nat, h 182 2 = (n : Int) ∧ n ≤ 1000 ∧ ∀ r h', (∃ N S P V, TOK (h 183) n N S P V ∧ ((∃ f, 0 < f ∧ sGrid S P V (h 187) 1001 DD0 0 = .error f ∧ r = f ∧ KF h h' ∧ h' 194 = h 194 ∧ h' 191 = h 191 ∧ h' 195 = h 195 ∧ h' 182 18 = h 182 18 ∧ h' 182 19 = h 182 19) ∨ (∃ D, sGrid S P V (h 187) 1001 DD0 0 = .ok D ∧ r = 0 ∧ RF D h' ∧ BGR D.2.2.2.2.1.length D.1.toNat h'))) → Q 1 [r] h' := propext ⟨fun a => a.2, fun a => ⟨rfl, a⟩⟩
theorem jcn {x : Int} {n : Nat} (e : x = (n : Int)) (hn : n < 100000) : j32 x = (n : Int) := by
  rw [e]
  exact j32_id (by omega) (by omega)
end KKF4
def CS24 : CSt := fun f => match f with
  | 240 => k240s
  | 241 => k241s
  | 206 => k206s
  | _ => CS23 f
theorem cs24_54 {av : List Int} {h : XH} {Q : Nat → List Int → XH → Prop} : CS24 54 av h Q = k54 av h Q := id rfl
theorem cs24_55 {av : List Int} {h : XH} {Q : Nat → List Int → XH → Prop} : CS24 55 av h Q = k55 av h Q := id rfl
theorem cs24_68 {av : List Int} {h : XH} {Q : Nat → List Int → XH → Prop} : CS24 68 av h Q = k68 av h Q := id rfl
theorem cs24_69 {av : List Int} {h : XH} {Q : Nat → List Int → XH → Prop} : CS24 69 av h Q = k69 av h Q := id rfl
theorem cs24_70 {av : List Int} {h : XH} {Q : Nat → List Int → XH → Prop} : CS24 70 av h Q = k70 av h Q := id rfl
theorem cs24_71 {av : List Int} {h : XH} {Q : Nat → List Int → XH → Prop} : CS24 71 av h Q = k71 av h Q := id rfl
theorem cs24_72 {av : List Int} {h : XH} {Q : Nat → List Int → XH → Prop} : CS24 72 av h Q = k72 av h Q := id rfl
theorem cs24_73 {av : List Int} {h : XH} {Q : Nat → List Int → XH → Prop} : CS24 73 av h Q = k73 av h Q := id rfl
theorem cs24_74 {av : List Int} {h : XH} {Q : Nat → List Int → XH → Prop} : CS24 74 av h Q = k74 av h Q := id rfl
theorem cs24_75 {av : List Int} {h : XH} {Q : Nat → List Int → XH → Prop} : CS24 75 av h Q = k75 av h Q := id rfl
theorem cs24_186 {av : List Int} {h : XH} {Q : Nat → List Int → XH → Prop} : CS24 186 av h Q = k186 av h Q := id rfl
theorem cs24_187 {av : List Int} {h : XH} {Q : Nat → List Int → XH → Prop} : CS24 187 av h Q = k187 av h Q := id rfl
theorem cs24_188 {av : List Int} {h : XH} {Q : Nat → List Int → XH → Prop} : CS24 188 av h Q = k188 av h Q := id rfl
theorem cs24_189 {av : List Int} {h : XH} {Q : Nat → List Int → XH → Prop} : CS24 189 av h Q = k189 av h Q := id rfl
theorem cs24_191 {av : List Int} {h : XH} {Q : Nat → List Int → XH → Prop} : CS24 191 av h Q = k191 av h Q := id rfl
theorem cs24_192 {av : List Int} {h : XH} {Q : Nat → List Int → XH → Prop} : CS24 192 av h Q = k192 av h Q := id rfl
theorem cs24_193 {av : List Int} {h : XH} {Q : Nat → List Int → XH → Prop} : CS24 193 av h Q = k193 av h Q := id rfl
theorem cs24_198 {av : List Int} {h : XH} {Q : Nat → List Int → XH → Prop} : CS24 198 av h Q = k198 av h Q := id rfl
theorem cs24_207 {av : List Int} {h : XH} {Q : Nat → List Int → XH → Prop} : CS24 207 av h Q = k207 av h Q := id rfl
theorem cs24_195 {av : List Int} {h : XH} {Q : Nat → List Int → XH → Prop} : CS24 195 av h Q = k195 av h Q := id rfl
theorem cs24_196 {av : List Int} {h : XH} {Q : Nat → List Int → XH → Prop} : CS24 196 av h Q = k196 av h Q := id rfl
theorem cs24_201 {av : List Int} {h : XH} {Q : Nat → List Int → XH → Prop} : CS24 201 av h Q = k201 av h Q := id rfl
theorem cs24_203 {av : List Int} {h : XH} {Q : Nat → List Int → XH → Prop} : CS24 203 av h Q = k203 av h Q := id rfl
theorem cs24_204 {av : List Int} {h : XH} {Q : Nat → List Int → XH → Prop} : CS24 204 av h Q = k204 av h Q := id rfl
theorem cs24_194 {av : List Int} {h : XH} {Q : Nat → List Int → XH → Prop} : CS24 194 av h Q = k194 av h Q := id rfl
theorem cs24_197 {av : List Int} {h : XH} {Q : Nat → List Int → XH → Prop} : CS24 197 av h Q = k197 av h Q := id rfl
theorem cs24_200 {av : List Int} {h : XH} {Q : Nat → List Int → XH → Prop} : CS24 200 av h Q = k200 av h Q := id rfl
theorem cs24_202 {av : List Int} {h : XH} {Q : Nat → List Int → XH → Prop} : CS24 202 av h Q = k202 av h Q := id rfl
theorem cs24_205 {av : List Int} {h : XH} {Q : Nat → List Int → XH → Prop} : CS24 205 av h Q = k205 av h Q := id rfl
theorem cs24_208 {av : List Int} {h : XH} {Q : Nat → List Int → XH → Prop} : CS24 208 av h Q = k208 av h Q := id rfl
theorem cs24_209 {av : List Int} {h : XH} {Q : Nat → List Int → XH → Prop} : CS24 209 av h Q = k209 av h Q := id rfl
theorem cs24_211 {av : List Int} {h : XH} {Q : Nat → List Int → XH → Prop} : CS24 211 av h Q = k211 av h Q := id rfl
theorem cs24_216 {av : List Int} {h : XH} {Q : Nat → List Int → XH → Prop} : CS24 216 av h Q = k216 av h Q := id rfl
theorem cs24_217 {av : List Int} {h : XH} {Q : Nat → List Int → XH → Prop} : CS24 217 av h Q = k217 av h Q := id rfl
theorem cs24_218 {av : List Int} {h : XH} {Q : Nat → List Int → XH → Prop} : CS24 218 av h Q = k218 av h Q := id rfl
theorem cs24_219 {av : List Int} {h : XH} {Q : Nat → List Int → XH → Prop} : CS24 219 av h Q = k219 av h Q := id rfl
theorem cs24_220 {av : List Int} {h : XH} {Q : Nat → List Int → XH → Prop} : CS24 220 av h Q = k220 av h Q := id rfl
theorem cs24_221 {av : List Int} {h : XH} {Q : Nat → List Int → XH → Prop} : CS24 221 av h Q = k221 av h Q := id rfl
theorem cs24_210 {av : List Int} {h : XH} {Q : Nat → List Int → XH → Prop} : CS24 210 av h Q = k210 av h Q := id rfl
theorem cs24_212 {av : List Int} {h : XH} {Q : Nat → List Int → XH → Prop} : CS24 212 av h Q = k212 av h Q := id rfl
theorem cs24_213 {av : List Int} {h : XH} {Q : Nat → List Int → XH → Prop} : CS24 213 av h Q = k213 av h Q := id rfl
theorem cs24_190 {av : List Int} {h : XH} {Q : Nat → List Int → XH → Prop} : CS24 190 av h Q = k190 av h Q := id rfl
theorem cs24_199 {av : List Int} {h : XH} {Q : Nat → List Int → XH → Prop} : CS24 199 av h Q = k199 av h Q := id rfl
theorem cs24_225 {av : List Int} {h : XH} {Q : Nat → List Int → XH → Prop} : CS24 225 av h Q = k225 av h Q := id rfl
theorem cs24_226 {av : List Int} {h : XH} {Q : Nat → List Int → XH → Prop} : CS24 226 av h Q = k226 av h Q := id rfl
theorem cs24_227 {av : List Int} {h : XH} {Q : Nat → List Int → XH → Prop} : CS24 227 av h Q = k227 av h Q := id rfl
theorem cs24_228 {av : List Int} {h : XH} {Q : Nat → List Int → XH → Prop} : CS24 228 av h Q = k228 av h Q := id rfl
theorem cs24_333 {av : List Int} {h : XH} {Q : Nat → List Int → XH → Prop} : CS24 333 av h Q = k333 av h Q := id rfl
theorem cs24_67 {av : List Int} {h : XH} {Q : Nat → List Int → XH → Prop} : CS24 67 av h Q = k67 av h Q := id rfl
theorem cs24_65 {av : List Int} {h : XH} {Q : Nat → List Int → XH → Prop} : CS24 65 av h Q = k65 av h Q := id rfl
theorem cs24_66 {av : List Int} {h : XH} {Q : Nat → List Int → XH → Prop} : CS24 66 av h Q = k66 av h Q := id rfl
theorem cs24_64 {av : List Int} {h : XH} {Q : Nat → List Int → XH → Prop} : CS24 64 av h Q = k64 av h Q := id rfl
theorem cs24_63 {av : List Int} {h : XH} {Q : Nat → List Int → XH → Prop} : CS24 63 av h Q = k63 av h Q := id rfl
theorem cs24_77 {av : List Int} {h : XH} {Q : Nat → List Int → XH → Prop} : CS24 77 av h Q = k77 av h Q := id rfl
theorem cs24_76 {av : List Int} {h : XH} {Q : Nat → List Int → XH → Prop} : CS24 76 av h Q = k76 av h Q := id rfl
theorem cs24_133 {av : List Int} {h : XH} {Q : Nat → List Int → XH → Prop} : CS24 133 av h Q = k133 av h Q := id rfl
theorem cs24_134 {av : List Int} {h : XH} {Q : Nat → List Int → XH → Prop} : CS24 134 av h Q = k134 av h Q := id rfl
theorem cs24_135 {av : List Int} {h : XH} {Q : Nat → List Int → XH → Prop} : CS24 135 av h Q = k135 av h Q := id rfl
theorem cs24_136 {av : List Int} {h : XH} {Q : Nat → List Int → XH → Prop} : CS24 136 av h Q = k136 av h Q := id rfl
theorem cs24_138 {av : List Int} {h : XH} {Q : Nat → List Int → XH → Prop} : CS24 138 av h Q = k138 av h Q := id rfl
theorem cs24_139 {av : List Int} {h : XH} {Q : Nat → List Int → XH → Prop} : CS24 139 av h Q = k139 av h Q := id rfl
theorem cs24_105 {av : List Int} {h : XH} {Q : Nat → List Int → XH → Prop} : CS24 105 av h Q = k105 av h Q := id rfl
theorem cs24_102 {av : List Int} {h : XH} {Q : Nat → List Int → XH → Prop} : CS24 102 av h Q = k102 av h Q := id rfl
theorem cs24_103 {av : List Int} {h : XH} {Q : Nat → List Int → XH → Prop} : CS24 103 av h Q = k103 av h Q := id rfl
theorem cs24_104 {av : List Int} {h : XH} {Q : Nat → List Int → XH → Prop} : CS24 104 av h Q = k104 av h Q := id rfl
theorem cs24_106 {av : List Int} {h : XH} {Q : Nat → List Int → XH → Prop} : CS24 106 av h Q = k106 av h Q := id rfl
theorem cs24_140 {av : List Int} {h : XH} {Q : Nat → List Int → XH → Prop} : CS24 140 av h Q = k140 av h Q := id rfl
theorem cs24_137 {av : List Int} {h : XH} {Q : Nat → List Int → XH → Prop} : CS24 137 av h Q = k137 av h Q := id rfl
theorem cs24_127 {av : List Int} {h : XH} {Q : Nat → List Int → XH → Prop} : CS24 127 av h Q = k127 av h Q := id rfl
theorem cs24_56 {av : List Int} {h : XH} {Q : Nat → List Int → XH → Prop} : CS24 56 av h Q = k56 av h Q := id rfl
theorem cs24_57 {av : List Int} {h : XH} {Q : Nat → List Int → XH → Prop} : CS24 57 av h Q = k57 av h Q := id rfl
theorem cs24_79 {av : List Int} {h : XH} {Q : Nat → List Int → XH → Prop} : CS24 79 av h Q = k79 av h Q := id rfl
theorem cs24_101 {av : List Int} {h : XH} {Q : Nat → List Int → XH → Prop} : CS24 101 av h Q = k101 av h Q := id rfl
theorem cs24_96 {av : List Int} {h : XH} {Q : Nat → List Int → XH → Prop} : CS24 96 av h Q = k96 av h Q := id rfl
theorem cs24_99 {av : List Int} {h : XH} {Q : Nat → List Int → XH → Prop} : CS24 99 av h Q = k99c av h Q := id rfl
theorem cs24_100 {av : List Int} {h : XH} {Q : Nat → List Int → XH → Prop} : CS24 100 av h Q = k100 av h Q := id rfl
theorem cs24_98 {av : List Int} {h : XH} {Q : Nat → List Int → XH → Prop} : CS24 98 av h Q = k98 av h Q := id rfl
theorem cs24_122 {av : List Int} {h : XH} {Q : Nat → List Int → XH → Prop} : CS24 122 av h Q = k122 av h Q := id rfl
theorem cs24_123 {av : List Int} {h : XH} {Q : Nat → List Int → XH → Prop} : CS24 123 av h Q = k123 av h Q := id rfl
theorem cs24_124 {av : List Int} {h : XH} {Q : Nat → List Int → XH → Prop} : CS24 124 av h Q = k124 av h Q := id rfl
theorem cs24_125 {av : List Int} {h : XH} {Q : Nat → List Int → XH → Prop} : CS24 125 av h Q = k125 av h Q := id rfl
theorem cs24_126 {av : List Int} {h : XH} {Q : Nat → List Int → XH → Prop} : CS24 126 av h Q = k126 av h Q := id rfl
theorem cs24_84 {av : List Int} {h : XH} {Q : Nat → List Int → XH → Prop} : CS24 84 av h Q = k84 av h Q := id rfl
theorem cs24_82 {av : List Int} {h : XH} {Q : Nat → List Int → XH → Prop} : CS24 82 av h Q = k82 av h Q := id rfl
theorem cs24_83 {av : List Int} {h : XH} {Q : Nat → List Int → XH → Prop} : CS24 83 av h Q = k83 av h Q := id rfl
theorem cs24_85 {av : List Int} {h : XH} {Q : Nat → List Int → XH → Prop} : CS24 85 av h Q = k85 av h Q := id rfl
theorem cs24_89 {av : List Int} {h : XH} {Q : Nat → List Int → XH → Prop} : CS24 89 av h Q = k89 av h Q := id rfl
theorem cs24_90 {av : List Int} {h : XH} {Q : Nat → List Int → XH → Prop} : CS24 90 av h Q = k90 av h Q := id rfl
theorem cs24_91 {av : List Int} {h : XH} {Q : Nat → List Int → XH → Prop} : CS24 91 av h Q = k91 av h Q := id rfl
theorem cs24_88 {av : List Int} {h : XH} {Q : Nat → List Int → XH → Prop} : CS24 88 av h Q = k88 av h Q := id rfl
theorem cs24_86 {av : List Int} {h : XH} {Q : Nat → List Int → XH → Prop} : CS24 86 av h Q = k86 av h Q := id rfl
theorem cs24_87 {av : List Int} {h : XH} {Q : Nat → List Int → XH → Prop} : CS24 87 av h Q = k87 av h Q := id rfl
theorem cs24_81 {av : List Int} {h : XH} {Q : Nat → List Int → XH → Prop} : CS24 81 av h Q = k81 av h Q := id rfl
theorem cs24_128 {av : List Int} {h : XH} {Q : Nat → List Int → XH → Prop} : CS24 128 av h Q = k128 av h Q := id rfl
theorem cs24_119 {av : List Int} {h : XH} {Q : Nat → List Int → XH → Prop} : CS24 119 av h Q = k119 av h Q := id rfl
theorem cs24_58 {av : List Int} {h : XH} {Q : Nat → List Int → XH → Prop} : CS24 58 av h Q = k58 av h Q := id rfl
theorem cs24_80 {av : List Int} {h : XH} {Q : Nat → List Int → XH → Prop} : CS24 80 av h Q = k80 av h Q := id rfl
theorem cs24_97 {av : List Int} {h : XH} {Q : Nat → List Int → XH → Prop} : CS24 97 av h Q = k97s av h Q := id rfl
theorem cs24_156 {av : List Int} {h : XH} {Q : Nat → List Int → XH → Prop} : CS24 156 av h Q = k156 av h Q := id rfl
theorem cs24_142 {av : List Int} {h : XH} {Q : Nat → List Int → XH → Prop} : CS24 142 av h Q = k142 av h Q := id rfl
theorem cs24_3 {av : List Int} {h : XH} {Q : Nat → List Int → XH → Prop} : CS24 3 av h Q = k3s av h Q := id rfl
theorem cs24_61 {av : List Int} {h : XH} {Q : Nat → List Int → XH → Prop} : CS24 61 av h Q = k61z av h Q := id rfl
theorem cs24_2 {av : List Int} {h : XH} {Q : Nat → List Int → XH → Prop} : CS24 2 av h Q = k2s av h Q := id rfl
theorem cs24_240 {av : List Int} {h : XH} {Q : Nat → List Int → XH → Prop} : CS24 240 av h Q = k240s av h Q := id rfl
theorem cs24_241 {av : List Int} {h : XH} {Q : Nat → List Int → XH → Prop} : CS24 241 av h Q = k241s av h Q := id rfl
theorem cs24_206 {av : List Int} {h : XH} {Q : Nat → List Int → XH → Prop} : CS24 206 av h Q = k206s av h Q := id rfl
/-- what is_w in force, and the state_w, are kept -/
def KFx (h h' : XH) : Prop := KF h h' ∧ h' 194 = h 194 ∧ h' 191 = h 191 ∧ h' 195 = h 195 ∧ h' 182 18 = h 182 18 ∧ h' 182 19 = h 182 19
theorem RF.fr {D : DD} {h h' : XH} (r : RF D h) (a : h' 188 = h 188) (b : h' 189 = h 189) (c : h' 190 = h 190) : RF D h' := by
  obtain ⟨ok, h0, r0, r1_w, r2, r3⟩ := r
  exact ⟨ok, h0, r0, fun q z => by rw [a]; exact r1_w q z, fun q z => by rw [b]; exact r2 q z, fun q z => by rw [c]; exact r3 q z⟩
theorem RD.cd {D : DD} {h : XH} (r : RD D h) : 0 ≤ h 182 12 ∧ h 182 12 ≤ 1100 := by
  have l := r.2.2.2.2.2.2
  unfold LW at l
  split at l
  · omega
  · omega
theorem m_240s : BodyOK CS24 CS24 240 := fun av h Q hQ => by
  rw [cs24_240] at hQ
  unfold k240s at hQ
  split at hQ
  · rename_i t a
    obtain ⟨rfl, b, M, S, rfl, hb_w, eM_w, hM_w, eS, hS_w, hQ⟩ := hQ
    show pS CS24 bb_240 [182, (b : Int), 0, 0] h _
    unfold bb_240
    simp only [qe_1, qe_3, qe_4, qe_5, qe_7, qe_72, qe_10, qe_102, qe_13, qe_14, qe_15, qe_16, qe_17, qe_18, qe_20, qe_22, qe_23, qe_21, qe_24, qe_25, qe_26, qe_27, qe_28, qe_30, qe_31, qe_32, qc_20, qc_22, qc_23, qc_21, qc_24, qc_25, qc_26, qc_27, qc_1, qc_3, qc_4, qc_7, qc_13, qc_28, qc_32, qs_1, qs_2, qs_3, qs_4, qs_5, qs_6, qs_9, qs_10, qs_11, qs_14, qs_15, qs_16, qs_27, qs_17, qs_18, qs_19, qs_20, qs_22, qs_23, qs_28, qs_25, qs_26, qs_7, qs_8, kc_1, kn_1, kc_2, kn_2, kc_3, kn_3, kc_4, kn_4, kc_5, kn_5, kc_6, kn_6, kc_7, kn_7, kc_8, kn_8, kc_9, kn_9, kc_10, kn_10, kc_11, kn_11, kc_12, kn_12, kc_13, kn_13, kc_14, kn_14, kc_15, kn_15, kc_16, kc_17, kc_18, kc_19, kc_20, kc_21, kc_22, kc_23, kc_30, kc_32, kc_40, kc_43, kc_45, kc_48, kc_52, kc_56, kc_57, kc_59, kc_60, kc_61, kc_63, kc_64, kc_72, kc_78, kc_97, kc_99, kc_122, kc_126, kc_128, kc_192, kc_200, kc_255, kc_999, kc_1000, kc_9999, kn_9999, kc_10000, kc_12345, kc_65536, kc_252645135, kc_858993459, kc_1103515245, kc_1431655765, kc_2147483647, kc_0, kc_24, kc_28, kc_37, kc_41, kc_42, kc_73, kc_91, kc_95, kc_96, kc_98, kc_100, kc_112, kc_125, kc_150, kc_162, kc_163, kc_168, kc_186, kc_190, kc_250, kc_355, kc_356, kc_404, kc_405, kc_429, kc_573, kc_1002, kc_1100, kc_1891, kc_2200, kc_4719, kc_4869, kc_4881, kc_5148, kc_19741, kc_25433, kc_320403, kc_628412, kc_629093, kc_660401, kc_679843, kc_918640, kc_979410, kc_1178088, kc_6232410, kc_24644941, kc_36238189, kc_38270444, kc_392531318, kc_425693491, kc_1342154595, kc_2147483648, kc_42328242873, kc_891704255789, kc_1722105685577, kc_1858726030364, ct_0, ct_1, ct_2, ct_3, ct_4, ct_5, cf_0, cf_1, cf_2, cf_3, cf_4, cf_5, w_ty6, w_ty7, m_sv, m_z0, m_hd, m_g0, m_gs, m_s0, m_ss, m_ap, m_an, forall_const, true_and, and_true, ne_eq, not_true_eq_false, not_false_eq_true, false_implies, true_implies, implies_true, eq_self, reduceCtorEq, Nat.reduceDiv, Nat.reduceMod, Int.reduceToNat, or_true, true_or, or_false, false_or, or_self, m_it, m_if, m_c1, m_01, m_02, m_03, m_04, m_10, m_12, m_13, m_14, m_20, m_21, m_23, m_24, m_30, m_31, m_32, m_34, m_40, m_41, m_42, m_43, Int.reduceLE, Int.reduceLT, Int.reduceGE, Int.reduceGT, Int.reduceNeg, Int.reduceAdd, Int.reduceSub, Int.reduceMul, Int.reduceEq, Int.reduceNe, Nat.reduceAdd, jun2, ro_0_0, ro_0_1, ro_0_2, ro_0_3, ro_0_4, ro_0_5, ro_0_6, ro_0_7, ro_0_8, ro_0_9, ro_0_10, ro_0_11, ro_0_12, ro_1_0, ro_1_1, ro_2_0, ro_4_0, ro_6_0, ro_6_1, ro_6_2, ro_6_3, ro_6_4, ro_6_5, ro_6_6, ro_6_7, ro_6_8, ro_8_0, ro_10_0, ro_12_0, ro_14_0, ro_16_0, ro_18_0, ro_20_0, ro_22_0, ro_22_1, ro_22_2, ro_23_0, ro_25_0, ro_27_0, ro_29_0, ro_29_1, ro_29_2, ro_29_3, ro_29_4, ro_29_5, ro_29_6, ro_29_7, ro_29_8, ro_31_0, ro_33_0, ro_35_0, ro_37_0, ro_39_0, ro_41_0, ro_43_0, ro_45_0, ro_45_1, ro_45_2, ro_46_0, ro_48_0, ro_50_0, ro_52_0, ro_52_1, ro_52_2, ro_52_3, ro_53_0, ro_55_0, ro_57_0, ro_59_0, ro_61_0, ro_61_1, ro_61_2, ro_61_3, ro_62_0, ro_64_0, ro_66_0, ro_68_0, ro_70_0, ro_70_1, ro_70_2, ro_70_3, ro_70_4, ro_70_5, ro_70_6, ro_70_7, ro_70_8, ro_70_9, ro_71_0, ro_73_0, ro_75_0, ro_77_0, ro_79_0, ro_81_0, ro_83_0, ro_85_0, ro_87_0, ro_89_0, ro_91_0, ro_91_1, ro_91_2, ro_91_3, ro_91_4, ro_91_5, ro_91_6, ro_91_7, ro_91_8, ro_91_9, ro_92_0, ro_94_0, ro_96_0, ro_98_0, ro_100_0, ro_102_0, ro_104_0, ro_106_0, ro_108_0, ro_110_0, ro_112_0, ro_112_1, ro_112_2, ro_112_3, ro_112_4, ro_112_5, ro_112_6, ro_112_7, ro_112_8, ro_112_9, ro_113_0, ro_115_0, ro_117_0, ro_119_0, ro_121_0, ro_123_0, ro_125_0, ro_127_0, ro_129_0, ro_131_0, ro_133_0, ro_133_1, ro_133_2, ro_133_3, ro_133_4, ro_133_5, ro_133_6, ro_133_7, ro_133_8, ro_133_9, ro_134_0, ro_136_0, ro_138_0, ro_140_0, ro_142_0, ro_144_0, ro_146_0, ro_148_0, ro_150_0, ro_152_0, ro_154_0, ro_155_0, ro_157_0, ro_157_1, ro_157_2, ro_157_3, ro_157_4, ro_157_5, ro_157_6, ro_157_7, ro_157_8, ro_157_9, ro_158_0, ro_160_0, ro_162_0, ro_164_0, ro_166_0, ro_168_0, ro_170_0, ro_172_0, ro_174_0, ro_176_0, ro_178_0, ro_180_0, ro_182_1, ro_182_4, ro_182_5, ro_182_6, ro_182_9, ro_182_10, ro_182_11, ro_182_13, ro_182_14, ro_182_15, ro_182_16, ro_182_17, ro_182_20, ro_182_21, ro_182_22, ro_182_23, ro_182_24, ro_182_26, ro_182_27, ro_182_28, lo_3, lo_5, lo_7, lo_9, lo_11, lo_13, lo_15, lo_17, lo_19, lo_21, lo_24, lo_26, lo_28, lo_30, lo_32, lo_34, lo_36, lo_38, lo_40, lo_42, lo_44, lo_47, lo_49, lo_51, lo_54, lo_56, lo_58, lo_60, lo_63, lo_65, lo_67, lo_69, lo_72, lo_74, lo_76, lo_78, lo_80, lo_82, lo_84, lo_86, lo_88, lo_90, lo_93, lo_95, lo_97, lo_99, lo_101, lo_103, lo_105, lo_107, lo_109, lo_111, lo_114, lo_116, lo_118, lo_120, lo_122, lo_124, lo_126, lo_128, lo_130, lo_132, lo_135, lo_137, lo_139, lo_141, lo_143, lo_145, lo_147, lo_149, lo_151, lo_153, lo_156, lo_159, lo_161, lo_163, lo_165, lo_167, lo_169, lo_171, lo_173, lo_175, lo_177, lo_179, lo_181, lo_183, lo_184, lo_185, lo_186, lo_187, lo_188, lo_189, lo_190, lo_191, lo_192, lo_193, lo_194, lo_195, lo_196, lo_197, lo_198, lo_199, lo_200, lo_201, lo_202, lo_203, jp_nn, jp_eq, jp_e1, Classical.not_not, ji0, ji1, ji2, cs24_225, kk_225, cs24_228, kk_228, jl_0, jl_1, jl_2, jl_3, jl_4, jl_5, jl_6, jl_7, jl_8, jl_9, jl_10, jl_11, jl_12, jl_13, jl_14, jl_15, jl_16, jl_17, jl_18, jl_19, jl_20, jl_21, jl_22, jl_23, jl_24, jl_25, jl_26, jl_27, jl_28, jl_29, jl_30, jl_31, jl_32, jl_33, jl_34, jl_35, jl_36, jl_37, jl_38, jl_39, jl_40, jl_95, jl_96, jl_97, jl_98, jl_99, jl_100, jl_101, jl_102, jl_103, jl_104, jl_105, jl_106, jl_107, jl_108, jl_109, jl_110, jl_111, jl_112, jl_113, jl_114, jl_186, jl_1100, jr, ju, jpT, jpF, tnc, Nat.reduceEqDiff, reduceIte, and_false, false_and, not_true_eq_false, not_false_eq_true, or_false, gt_iff_lt, ge_iff_le, Int.lt_irrefl, Int.le_refl]
    refine qp_lp (fun en h' => ∃ k : Nat, en = [182, (b : Int), (k : Int), 0] ∧ k ≤ 404 ∧ Fr ([], [194]) h h' ∧ (∀ q : Nat, ¬ (b ≤ q ∧ q < b + 404) → h' 194 q = h 194 q) ∧ ∀ q : Nat, q < k → h' 194 (b + q) = if q < 78 then -1 else 0) ⟨0, rfl, by omega, Fr.rf, fun _ _ => rfl, fun q z => by omega⟩ ?_
    intro en h1 ⟨k, e1_w, hk, hf, ho, hq⟩
    subst e1_w
    by_cases y : (k : Int) < 404
    · have y2 : ¬ (404 : Int) ≤ (k : Int) := by omega
      have ek := jk1 (k := k) (by omega)
      have ea : j32 ((b : Int) + (k : Int)) = ((b + k : Nat) : Int) := jcn (by omega) (by omega)
      by_cases y78 : (k : Int) < 78
      · have y78' : ¬ (78 : Int) ≤ (k : Int) := by omega
        simp only [qe_1, qe_3, qe_4, qe_5, qe_7, qe_72, qe_10, qe_102, qe_13, qe_14, qe_15, qe_16, qe_17, qe_18, qe_20, qe_22, qe_23, qe_21, qe_24, qe_25, qe_26, qe_27, qe_28, qe_30, qe_31, qe_32, qc_20, qc_22, qc_23, qc_21, qc_24, qc_25, qc_26, qc_27, qc_1, qc_3, qc_4, qc_7, qc_13, qc_28, qc_32, qs_1, qs_2, qs_3, qs_4, qs_5, qs_6, qs_9, qs_10, qs_11, qs_14, qs_15, qs_16, qs_27, qs_17, qs_18, qs_19, qs_20, qs_22, qs_23, qs_28, qs_25, qs_26, qs_7, qs_8, kc_1, kn_1, kc_2, kn_2, kc_3, kn_3, kc_4, kn_4, kc_5, kn_5, kc_6, kn_6, kc_7, kn_7, kc_8, kn_8, kc_9, kn_9, kc_10, kn_10, kc_11, kn_11, kc_12, kn_12, kc_13, kn_13, kc_14, kn_14, kc_15, kn_15, kc_16, kc_17, kc_18, kc_19, kc_20, kc_21, kc_22, kc_23, kc_30, kc_32, kc_40, kc_43, kc_45, kc_48, kc_52, kc_56, kc_57, kc_59, kc_60, kc_61, kc_63, kc_64, kc_72, kc_78, kc_97, kc_99, kc_122, kc_126, kc_128, kc_192, kc_200, kc_255, kc_999, kc_1000, kc_9999, kn_9999, kc_10000, kc_12345, kc_65536, kc_252645135, kc_858993459, kc_1103515245, kc_1431655765, kc_2147483647, kc_0, kc_24, kc_28, kc_37, kc_41, kc_42, kc_73, kc_91, kc_95, kc_96, kc_98, kc_100, kc_112, kc_125, kc_150, kc_162, kc_163, kc_168, kc_186, kc_190, kc_250, kc_355, kc_356, kc_404, kc_405, kc_429, kc_573, kc_1002, kc_1100, kc_1891, kc_2200, kc_4719, kc_4869, kc_4881, kc_5148, kc_19741, kc_25433, kc_320403, kc_628412, kc_629093, kc_660401, kc_679843, kc_918640, kc_979410, kc_1178088, kc_6232410, kc_24644941, kc_36238189, kc_38270444, kc_392531318, kc_425693491, kc_1342154595, kc_2147483648, kc_42328242873, kc_891704255789, kc_1722105685577, kc_1858726030364, ct_0, ct_1, ct_2, ct_3, ct_4, ct_5, cf_0, cf_1, cf_2, cf_3, cf_4, cf_5, w_ty6, w_ty7, m_sv, m_z0, m_hd, m_g0, m_gs, m_s0, m_ss, m_ap, m_an, forall_const, true_and, and_true, ne_eq, not_true_eq_false, not_false_eq_true, false_implies, true_implies, implies_true, eq_self, reduceCtorEq, Nat.reduceDiv, Nat.reduceMod, Int.reduceToNat, or_true, true_or, or_false, false_or, or_self, m_it, m_if, m_c1, m_01, m_02, m_03, m_04, m_10, m_12, m_13, m_14, m_20, m_21, m_23, m_24, m_30, m_31, m_32, m_34, m_40, m_41, m_42, m_43, Int.reduceLE, Int.reduceLT, Int.reduceGE, Int.reduceGT, Int.reduceNeg, Int.reduceAdd, Int.reduceSub, Int.reduceMul, Int.reduceEq, Int.reduceNe, Nat.reduceAdd, jun2, ro_0_0, ro_0_1, ro_0_2, ro_0_3, ro_0_4, ro_0_5, ro_0_6, ro_0_7, ro_0_8, ro_0_9, ro_0_10, ro_0_11, ro_0_12, ro_1_0, ro_1_1, ro_2_0, ro_4_0, ro_6_0, ro_6_1, ro_6_2, ro_6_3, ro_6_4, ro_6_5, ro_6_6, ro_6_7, ro_6_8, ro_8_0, ro_10_0, ro_12_0, ro_14_0, ro_16_0, ro_18_0, ro_20_0, ro_22_0, ro_22_1, ro_22_2, ro_23_0, ro_25_0, ro_27_0, ro_29_0, ro_29_1, ro_29_2, ro_29_3, ro_29_4, ro_29_5, ro_29_6, ro_29_7, ro_29_8, ro_31_0, ro_33_0, ro_35_0, ro_37_0, ro_39_0, ro_41_0, ro_43_0, ro_45_0, ro_45_1, ro_45_2, ro_46_0, ro_48_0, ro_50_0, ro_52_0, ro_52_1, ro_52_2, ro_52_3, ro_53_0, ro_55_0, ro_57_0, ro_59_0, ro_61_0, ro_61_1, ro_61_2, ro_61_3, ro_62_0, ro_64_0, ro_66_0, ro_68_0, ro_70_0, ro_70_1, ro_70_2, ro_70_3, ro_70_4, ro_70_5, ro_70_6, ro_70_7, ro_70_8, ro_70_9, ro_71_0, ro_73_0, ro_75_0, ro_77_0, ro_79_0, ro_81_0, ro_83_0, ro_85_0, ro_87_0, ro_89_0, ro_91_0, ro_91_1, ro_91_2, ro_91_3, ro_91_4, ro_91_5, ro_91_6, ro_91_7, ro_91_8, ro_91_9, ro_92_0, ro_94_0, ro_96_0, ro_98_0, ro_100_0, ro_102_0, ro_104_0, ro_106_0, ro_108_0, ro_110_0, ro_112_0, ro_112_1, ro_112_2, ro_112_3, ro_112_4, ro_112_5, ro_112_6, ro_112_7, ro_112_8, ro_112_9, ro_113_0, ro_115_0, ro_117_0, ro_119_0, ro_121_0, ro_123_0, ro_125_0, ro_127_0, ro_129_0, ro_131_0, ro_133_0, ro_133_1, ro_133_2, ro_133_3, ro_133_4, ro_133_5, ro_133_6, ro_133_7, ro_133_8, ro_133_9, ro_134_0, ro_136_0, ro_138_0, ro_140_0, ro_142_0, ro_144_0, ro_146_0, ro_148_0, ro_150_0, ro_152_0, ro_154_0, ro_155_0, ro_157_0, ro_157_1, ro_157_2, ro_157_3, ro_157_4, ro_157_5, ro_157_6, ro_157_7, ro_157_8, ro_157_9, ro_158_0, ro_160_0, ro_162_0, ro_164_0, ro_166_0, ro_168_0, ro_170_0, ro_172_0, ro_174_0, ro_176_0, ro_178_0, ro_180_0, ro_182_1, ro_182_4, ro_182_5, ro_182_6, ro_182_9, ro_182_10, ro_182_11, ro_182_13, ro_182_14, ro_182_15, ro_182_16, ro_182_17, ro_182_20, ro_182_21, ro_182_22, ro_182_23, ro_182_24, ro_182_26, ro_182_27, ro_182_28, lo_3, lo_5, lo_7, lo_9, lo_11, lo_13, lo_15, lo_17, lo_19, lo_21, lo_24, lo_26, lo_28, lo_30, lo_32, lo_34, lo_36, lo_38, lo_40, lo_42, lo_44, lo_47, lo_49, lo_51, lo_54, lo_56, lo_58, lo_60, lo_63, lo_65, lo_67, lo_69, lo_72, lo_74, lo_76, lo_78, lo_80, lo_82, lo_84, lo_86, lo_88, lo_90, lo_93, lo_95, lo_97, lo_99, lo_101, lo_103, lo_105, lo_107, lo_109, lo_111, lo_114, lo_116, lo_118, lo_120, lo_122, lo_124, lo_126, lo_128, lo_130, lo_132, lo_135, lo_137, lo_139, lo_141, lo_143, lo_145, lo_147, lo_149, lo_151, lo_153, lo_156, lo_159, lo_161, lo_163, lo_165, lo_167, lo_169, lo_171, lo_173, lo_175, lo_177, lo_179, lo_181, lo_183, lo_184, lo_185, lo_186, lo_187, lo_188, lo_189, lo_190, lo_191, lo_192, lo_193, lo_194, lo_195, lo_196, lo_197, lo_198, lo_199, lo_200, lo_201, lo_202, lo_203, jp_nn, jp_eq, jp_e1, Classical.not_not, ji0, ji1, ji2, cs24_225, kk_225, cs24_228, kk_228, jl_0, jl_1, jl_2, jl_3, jl_4, jl_5, jl_6, jl_7, jl_8, jl_9, jl_10, jl_11, jl_12, jl_13, jl_14, jl_15, jl_16, jl_17, jl_18, jl_19, jl_20, jl_21, jl_22, jl_23, jl_24, jl_25, jl_26, jl_27, jl_28, jl_29, jl_30, jl_31, jl_32, jl_33, jl_34, jl_35, jl_36, jl_37, jl_38, jl_39, jl_40, jl_95, jl_96, jl_97, jl_98, jl_99, jl_100, jl_101, jl_102, jl_103, jl_104, jl_105, jl_106, jl_107, jl_108, jl_109, jl_110, jl_111, jl_112, jl_113, jl_114, jl_186, jl_1100, jr, ju, jpT, jpF, tnc, Nat.reduceEqDiff, reduceIte, and_false, false_and, not_true_eq_false, not_false_eq_true, or_false, gt_iff_lt, ge_iff_le, Int.lt_irrefl, Int.le_refl, y, y2, ek, ea, y78, y78']
        intros
        refine ⟨k + 1, rfl, by omega, Fr.tr hf (Fr.arr rfl), fun q z => ?_, fun q z => ?_⟩
        · rw [if_neg (by omega)]
          exact ho q z
        · by_cases yq : q = k
          · rw [if_pos (by omega), if_pos (by omega)]
          · rw [if_neg (by omega)]
            exact hq q (by omega)
      · have y78' : (78 : Int) ≤ (k : Int) := by omega
        simp only [qe_1, qe_3, qe_4, qe_5, qe_7, qe_72, qe_10, qe_102, qe_13, qe_14, qe_15, qe_16, qe_17, qe_18, qe_20, qe_22, qe_23, qe_21, qe_24, qe_25, qe_26, qe_27, qe_28, qe_30, qe_31, qe_32, qc_20, qc_22, qc_23, qc_21, qc_24, qc_25, qc_26, qc_27, qc_1, qc_3, qc_4, qc_7, qc_13, qc_28, qc_32, qs_1, qs_2, qs_3, qs_4, qs_5, qs_6, qs_9, qs_10, qs_11, qs_14, qs_15, qs_16, qs_27, qs_17, qs_18, qs_19, qs_20, qs_22, qs_23, qs_28, qs_25, qs_26, qs_7, qs_8, kc_1, kn_1, kc_2, kn_2, kc_3, kn_3, kc_4, kn_4, kc_5, kn_5, kc_6, kn_6, kc_7, kn_7, kc_8, kn_8, kc_9, kn_9, kc_10, kn_10, kc_11, kn_11, kc_12, kn_12, kc_13, kn_13, kc_14, kn_14, kc_15, kn_15, kc_16, kc_17, kc_18, kc_19, kc_20, kc_21, kc_22, kc_23, kc_30, kc_32, kc_40, kc_43, kc_45, kc_48, kc_52, kc_56, kc_57, kc_59, kc_60, kc_61, kc_63, kc_64, kc_72, kc_78, kc_97, kc_99, kc_122, kc_126, kc_128, kc_192, kc_200, kc_255, kc_999, kc_1000, kc_9999, kn_9999, kc_10000, kc_12345, kc_65536, kc_252645135, kc_858993459, kc_1103515245, kc_1431655765, kc_2147483647, kc_0, kc_24, kc_28, kc_37, kc_41, kc_42, kc_73, kc_91, kc_95, kc_96, kc_98, kc_100, kc_112, kc_125, kc_150, kc_162, kc_163, kc_168, kc_186, kc_190, kc_250, kc_355, kc_356, kc_404, kc_405, kc_429, kc_573, kc_1002, kc_1100, kc_1891, kc_2200, kc_4719, kc_4869, kc_4881, kc_5148, kc_19741, kc_25433, kc_320403, kc_628412, kc_629093, kc_660401, kc_679843, kc_918640, kc_979410, kc_1178088, kc_6232410, kc_24644941, kc_36238189, kc_38270444, kc_392531318, kc_425693491, kc_1342154595, kc_2147483648, kc_42328242873, kc_891704255789, kc_1722105685577, kc_1858726030364, ct_0, ct_1, ct_2, ct_3, ct_4, ct_5, cf_0, cf_1, cf_2, cf_3, cf_4, cf_5, w_ty6, w_ty7, m_sv, m_z0, m_hd, m_g0, m_gs, m_s0, m_ss, m_ap, m_an, forall_const, true_and, and_true, ne_eq, not_true_eq_false, not_false_eq_true, false_implies, true_implies, implies_true, eq_self, reduceCtorEq, Nat.reduceDiv, Nat.reduceMod, Int.reduceToNat, or_true, true_or, or_false, false_or, or_self, m_it, m_if, m_c1, m_01, m_02, m_03, m_04, m_10, m_12, m_13, m_14, m_20, m_21, m_23, m_24, m_30, m_31, m_32, m_34, m_40, m_41, m_42, m_43, Int.reduceLE, Int.reduceLT, Int.reduceGE, Int.reduceGT, Int.reduceNeg, Int.reduceAdd, Int.reduceSub, Int.reduceMul, Int.reduceEq, Int.reduceNe, Nat.reduceAdd, jun2, ro_0_0, ro_0_1, ro_0_2, ro_0_3, ro_0_4, ro_0_5, ro_0_6, ro_0_7, ro_0_8, ro_0_9, ro_0_10, ro_0_11, ro_0_12, ro_1_0, ro_1_1, ro_2_0, ro_4_0, ro_6_0, ro_6_1, ro_6_2, ro_6_3, ro_6_4, ro_6_5, ro_6_6, ro_6_7, ro_6_8, ro_8_0, ro_10_0, ro_12_0, ro_14_0, ro_16_0, ro_18_0, ro_20_0, ro_22_0, ro_22_1, ro_22_2, ro_23_0, ro_25_0, ro_27_0, ro_29_0, ro_29_1, ro_29_2, ro_29_3, ro_29_4, ro_29_5, ro_29_6, ro_29_7, ro_29_8, ro_31_0, ro_33_0, ro_35_0, ro_37_0, ro_39_0, ro_41_0, ro_43_0, ro_45_0, ro_45_1, ro_45_2, ro_46_0, ro_48_0, ro_50_0, ro_52_0, ro_52_1, ro_52_2, ro_52_3, ro_53_0, ro_55_0, ro_57_0, ro_59_0, ro_61_0, ro_61_1, ro_61_2, ro_61_3, ro_62_0, ro_64_0, ro_66_0, ro_68_0, ro_70_0, ro_70_1, ro_70_2, ro_70_3, ro_70_4, ro_70_5, ro_70_6, ro_70_7, ro_70_8, ro_70_9, ro_71_0, ro_73_0, ro_75_0, ro_77_0, ro_79_0, ro_81_0, ro_83_0, ro_85_0, ro_87_0, ro_89_0, ro_91_0, ro_91_1, ro_91_2, ro_91_3, ro_91_4, ro_91_5, ro_91_6, ro_91_7, ro_91_8, ro_91_9, ro_92_0, ro_94_0, ro_96_0, ro_98_0, ro_100_0, ro_102_0, ro_104_0, ro_106_0, ro_108_0, ro_110_0, ro_112_0, ro_112_1, ro_112_2, ro_112_3, ro_112_4, ro_112_5, ro_112_6, ro_112_7, ro_112_8, ro_112_9, ro_113_0, ro_115_0, ro_117_0, ro_119_0, ro_121_0, ro_123_0, ro_125_0, ro_127_0, ro_129_0, ro_131_0, ro_133_0, ro_133_1, ro_133_2, ro_133_3, ro_133_4, ro_133_5, ro_133_6, ro_133_7, ro_133_8, ro_133_9, ro_134_0, ro_136_0, ro_138_0, ro_140_0, ro_142_0, ro_144_0, ro_146_0, ro_148_0, ro_150_0, ro_152_0, ro_154_0, ro_155_0, ro_157_0, ro_157_1, ro_157_2, ro_157_3, ro_157_4, ro_157_5, ro_157_6, ro_157_7, ro_157_8, ro_157_9, ro_158_0, ro_160_0, ro_162_0, ro_164_0, ro_166_0, ro_168_0, ro_170_0, ro_172_0, ro_174_0, ro_176_0, ro_178_0, ro_180_0, ro_182_1, ro_182_4, ro_182_5, ro_182_6, ro_182_9, ro_182_10, ro_182_11, ro_182_13, ro_182_14, ro_182_15, ro_182_16, ro_182_17, ro_182_20, ro_182_21, ro_182_22, ro_182_23, ro_182_24, ro_182_26, ro_182_27, ro_182_28, lo_3, lo_5, lo_7, lo_9, lo_11, lo_13, lo_15, lo_17, lo_19, lo_21, lo_24, lo_26, lo_28, lo_30, lo_32, lo_34, lo_36, lo_38, lo_40, lo_42, lo_44, lo_47, lo_49, lo_51, lo_54, lo_56, lo_58, lo_60, lo_63, lo_65, lo_67, lo_69, lo_72, lo_74, lo_76, lo_78, lo_80, lo_82, lo_84, lo_86, lo_88, lo_90, lo_93, lo_95, lo_97, lo_99, lo_101, lo_103, lo_105, lo_107, lo_109, lo_111, lo_114, lo_116, lo_118, lo_120, lo_122, lo_124, lo_126, lo_128, lo_130, lo_132, lo_135, lo_137, lo_139, lo_141, lo_143, lo_145, lo_147, lo_149, lo_151, lo_153, lo_156, lo_159, lo_161, lo_163, lo_165, lo_167, lo_169, lo_171, lo_173, lo_175, lo_177, lo_179, lo_181, lo_183, lo_184, lo_185, lo_186, lo_187, lo_188, lo_189, lo_190, lo_191, lo_192, lo_193, lo_194, lo_195, lo_196, lo_197, lo_198, lo_199, lo_200, lo_201, lo_202, lo_203, jp_nn, jp_eq, jp_e1, Classical.not_not, ji0, ji1, ji2, cs24_225, kk_225, cs24_228, kk_228, jl_0, jl_1, jl_2, jl_3, jl_4, jl_5, jl_6, jl_7, jl_8, jl_9, jl_10, jl_11, jl_12, jl_13, jl_14, jl_15, jl_16, jl_17, jl_18, jl_19, jl_20, jl_21, jl_22, jl_23, jl_24, jl_25, jl_26, jl_27, jl_28, jl_29, jl_30, jl_31, jl_32, jl_33, jl_34, jl_35, jl_36, jl_37, jl_38, jl_39, jl_40, jl_95, jl_96, jl_97, jl_98, jl_99, jl_100, jl_101, jl_102, jl_103, jl_104, jl_105, jl_106, jl_107, jl_108, jl_109, jl_110, jl_111, jl_112, jl_113, jl_114, jl_186, jl_1100, jr, ju, jpT, jpF, tnc, Nat.reduceEqDiff, reduceIte, and_false, false_and, not_true_eq_false, not_false_eq_true, or_false, gt_iff_lt, ge_iff_le, Int.lt_irrefl, Int.le_refl, y, y2, ek, ea, y78, y78']
        intros
        refine ⟨k + 1, rfl, by omega, Fr.tr hf (Fr.arr rfl), fun q z => ?_, fun q z => ?_⟩
        · rw [if_neg (by omega)]
          exact ho q z
        · by_cases yq : q = k
          · rw [if_pos (by omega), if_neg (by omega)]
          · rw [if_neg (by omega)]
            exact hq q (by omega)
    · have y2 : (404 : Int) ≤ (k : Int) := by omega
      have e4_w : k = 404 := by omega
      subst e4_w
      simp only [qe_1, qe_3, qe_4, qe_5, qe_7, qe_72, qe_10, qe_102, qe_13, qe_14, qe_15, qe_16, qe_17, qe_18, qe_20, qe_22, qe_23, qe_21, qe_24, qe_25, qe_26, qe_27, qe_28, qe_30, qe_31, qe_32, qc_20, qc_22, qc_23, qc_21, qc_24, qc_25, qc_26, qc_27, qc_1, qc_3, qc_4, qc_7, qc_13, qc_28, qc_32, qs_1, qs_2, qs_3, qs_4, qs_5, qs_6, qs_9, qs_10, qs_11, qs_14, qs_15, qs_16, qs_27, qs_17, qs_18, qs_19, qs_20, qs_22, qs_23, qs_28, qs_25, qs_26, qs_7, qs_8, kc_1, kn_1, kc_2, kn_2, kc_3, kn_3, kc_4, kn_4, kc_5, kn_5, kc_6, kn_6, kc_7, kn_7, kc_8, kn_8, kc_9, kn_9, kc_10, kn_10, kc_11, kn_11, kc_12, kn_12, kc_13, kn_13, kc_14, kn_14, kc_15, kn_15, kc_16, kc_17, kc_18, kc_19, kc_20, kc_21, kc_22, kc_23, kc_30, kc_32, kc_40, kc_43, kc_45, kc_48, kc_52, kc_56, kc_57, kc_59, kc_60, kc_61, kc_63, kc_64, kc_72, kc_78, kc_97, kc_99, kc_122, kc_126, kc_128, kc_192, kc_200, kc_255, kc_999, kc_1000, kc_9999, kn_9999, kc_10000, kc_12345, kc_65536, kc_252645135, kc_858993459, kc_1103515245, kc_1431655765, kc_2147483647, kc_0, kc_24, kc_28, kc_37, kc_41, kc_42, kc_73, kc_91, kc_95, kc_96, kc_98, kc_100, kc_112, kc_125, kc_150, kc_162, kc_163, kc_168, kc_186, kc_190, kc_250, kc_355, kc_356, kc_404, kc_405, kc_429, kc_573, kc_1002, kc_1100, kc_1891, kc_2200, kc_4719, kc_4869, kc_4881, kc_5148, kc_19741, kc_25433, kc_320403, kc_628412, kc_629093, kc_660401, kc_679843, kc_918640, kc_979410, kc_1178088, kc_6232410, kc_24644941, kc_36238189, kc_38270444, kc_392531318, kc_425693491, kc_1342154595, kc_2147483648, kc_42328242873, kc_891704255789, kc_1722105685577, kc_1858726030364, ct_0, ct_1, ct_2, ct_3, ct_4, ct_5, cf_0, cf_1, cf_2, cf_3, cf_4, cf_5, w_ty6, w_ty7, m_sv, m_z0, m_hd, m_g0, m_gs, m_s0, m_ss, m_ap, m_an, forall_const, true_and, and_true, ne_eq, not_true_eq_false, not_false_eq_true, false_implies, true_implies, implies_true, eq_self, reduceCtorEq, Nat.reduceDiv, Nat.reduceMod, Int.reduceToNat, or_true, true_or, or_false, false_or, or_self, m_it, m_if, m_c1, m_01, m_02, m_03, m_04, m_10, m_12, m_13, m_14, m_20, m_21, m_23, m_24, m_30, m_31, m_32, m_34, m_40, m_41, m_42, m_43, Int.reduceLE, Int.reduceLT, Int.reduceGE, Int.reduceGT, Int.reduceNeg, Int.reduceAdd, Int.reduceSub, Int.reduceMul, Int.reduceEq, Int.reduceNe, Nat.reduceAdd, jun2, ro_0_0, ro_0_1, ro_0_2, ro_0_3, ro_0_4, ro_0_5, ro_0_6, ro_0_7, ro_0_8, ro_0_9, ro_0_10, ro_0_11, ro_0_12, ro_1_0, ro_1_1, ro_2_0, ro_4_0, ro_6_0, ro_6_1, ro_6_2, ro_6_3, ro_6_4, ro_6_5, ro_6_6, ro_6_7, ro_6_8, ro_8_0, ro_10_0, ro_12_0, ro_14_0, ro_16_0, ro_18_0, ro_20_0, ro_22_0, ro_22_1, ro_22_2, ro_23_0, ro_25_0, ro_27_0, ro_29_0, ro_29_1, ro_29_2, ro_29_3, ro_29_4, ro_29_5, ro_29_6, ro_29_7, ro_29_8, ro_31_0, ro_33_0, ro_35_0, ro_37_0, ro_39_0, ro_41_0, ro_43_0, ro_45_0, ro_45_1, ro_45_2, ro_46_0, ro_48_0, ro_50_0, ro_52_0, ro_52_1, ro_52_2, ro_52_3, ro_53_0, ro_55_0, ro_57_0, ro_59_0, ro_61_0, ro_61_1, ro_61_2, ro_61_3, ro_62_0, ro_64_0, ro_66_0, ro_68_0, ro_70_0, ro_70_1, ro_70_2, ro_70_3, ro_70_4, ro_70_5, ro_70_6, ro_70_7, ro_70_8, ro_70_9, ro_71_0, ro_73_0, ro_75_0, ro_77_0, ro_79_0, ro_81_0, ro_83_0, ro_85_0, ro_87_0, ro_89_0, ro_91_0, ro_91_1, ro_91_2, ro_91_3, ro_91_4, ro_91_5, ro_91_6, ro_91_7, ro_91_8, ro_91_9, ro_92_0, ro_94_0, ro_96_0, ro_98_0, ro_100_0, ro_102_0, ro_104_0, ro_106_0, ro_108_0, ro_110_0, ro_112_0, ro_112_1, ro_112_2, ro_112_3, ro_112_4, ro_112_5, ro_112_6, ro_112_7, ro_112_8, ro_112_9, ro_113_0, ro_115_0, ro_117_0, ro_119_0, ro_121_0, ro_123_0, ro_125_0, ro_127_0, ro_129_0, ro_131_0, ro_133_0, ro_133_1, ro_133_2, ro_133_3, ro_133_4, ro_133_5, ro_133_6, ro_133_7, ro_133_8, ro_133_9, ro_134_0, ro_136_0, ro_138_0, ro_140_0, ro_142_0, ro_144_0, ro_146_0, ro_148_0, ro_150_0, ro_152_0, ro_154_0, ro_155_0, ro_157_0, ro_157_1, ro_157_2, ro_157_3, ro_157_4, ro_157_5, ro_157_6, ro_157_7, ro_157_8, ro_157_9, ro_158_0, ro_160_0, ro_162_0, ro_164_0, ro_166_0, ro_168_0, ro_170_0, ro_172_0, ro_174_0, ro_176_0, ro_178_0, ro_180_0, ro_182_1, ro_182_4, ro_182_5, ro_182_6, ro_182_9, ro_182_10, ro_182_11, ro_182_13, ro_182_14, ro_182_15, ro_182_16, ro_182_17, ro_182_20, ro_182_21, ro_182_22, ro_182_23, ro_182_24, ro_182_26, ro_182_27, ro_182_28, lo_3, lo_5, lo_7, lo_9, lo_11, lo_13, lo_15, lo_17, lo_19, lo_21, lo_24, lo_26, lo_28, lo_30, lo_32, lo_34, lo_36, lo_38, lo_40, lo_42, lo_44, lo_47, lo_49, lo_51, lo_54, lo_56, lo_58, lo_60, lo_63, lo_65, lo_67, lo_69, lo_72, lo_74, lo_76, lo_78, lo_80, lo_82, lo_84, lo_86, lo_88, lo_90, lo_93, lo_95, lo_97, lo_99, lo_101, lo_103, lo_105, lo_107, lo_109, lo_111, lo_114, lo_116, lo_118, lo_120, lo_122, lo_124, lo_126, lo_128, lo_130, lo_132, lo_135, lo_137, lo_139, lo_141, lo_143, lo_145, lo_147, lo_149, lo_151, lo_153, lo_156, lo_159, lo_161, lo_163, lo_165, lo_167, lo_169, lo_171, lo_173, lo_175, lo_177, lo_179, lo_181, lo_183, lo_184, lo_185, lo_186, lo_187, lo_188, lo_189, lo_190, lo_191, lo_192, lo_193, lo_194, lo_195, lo_196, lo_197, lo_198, lo_199, lo_200, lo_201, lo_202, lo_203, jp_nn, jp_eq, jp_e1, Classical.not_not, ji0, ji1, ji2, cs24_225, kk_225, cs24_228, kk_228, jl_0, jl_1, jl_2, jl_3, jl_4, jl_5, jl_6, jl_7, jl_8, jl_9, jl_10, jl_11, jl_12, jl_13, jl_14, jl_15, jl_16, jl_17, jl_18, jl_19, jl_20, jl_21, jl_22, jl_23, jl_24, jl_25, jl_26, jl_27, jl_28, jl_29, jl_30, jl_31, jl_32, jl_33, jl_34, jl_35, jl_36, jl_37, jl_38, jl_39, jl_40, jl_95, jl_96, jl_97, jl_98, jl_99, jl_100, jl_101, jl_102, jl_103, jl_104, jl_105, jl_106, jl_107, jl_108, jl_109, jl_110, jl_111, jl_112, jl_113, jl_114, jl_186, jl_1100, jr, ju, jpT, jpF, tnc, Nat.reduceEqDiff, reduceIte, and_false, false_and, not_true_eq_false, not_false_eq_true, or_false, gt_iff_lt, ge_iff_le, Int.lt_irrefl, Int.le_refl, y, y2]
      have e8 : ∀ {h' : XH}, Fr ([], [194]) h h' → h' 188 = h 188 := fun {h'} f => f.row rfl (by decide)
      refine qp_lp (fun en h' => ∃ (m : Nat) (w : Int), en = [182, (b : Int), (m : Int), w] ∧ m ≤ M ∧ Fr ([], [194]) h h' ∧ (∀ q : Nat, ¬ (b ≤ q ∧ q < b + 404) → h' 194 q = h 194 q) ∧ ∀ q : Nat, q < 404 → h' 194 (b + q) = if q < 78 then -1 else if q < 78 + 12 * m then h 188 (75 + 3 * ((q - 78) / 12)) else 0) ⟨0, 0, rfl, by omega, hf, ho, fun q z => (hq q z).trans ?_⟩ ?_
      · by_cases y7 : q < 78
        · rw [if_pos y7, if_pos y7]
        · rw [if_neg y7, if_neg y7, if_neg (by omega)]
      intro en h2 ⟨m, w, e1_w, hm_w, hf2, ho2, hq2⟩
      subst e1_w
      have eM2 : h2 188 3 = (M : Int) := by rw [e8 hf2]; exact eM_w
      by_cases ym : (m : Int) < (M : Int)
      · have ym2 : ¬ (M : Int) ≤ (m : Int) := by omega
        simp only [qe_1, qe_3, qe_4, qe_5, qe_7, qe_72, qe_10, qe_102, qe_13, qe_14, qe_15, qe_16, qe_17, qe_18, qe_20, qe_22, qe_23, qe_21, qe_24, qe_25, qe_26, qe_27, qe_28, qe_30, qe_31, qe_32, qc_20, qc_22, qc_23, qc_21, qc_24, qc_25, qc_26, qc_27, qc_1, qc_3, qc_4, qc_7, qc_13, qc_28, qc_32, qs_1, qs_2, qs_3, qs_4, qs_5, qs_6, qs_9, qs_10, qs_11, qs_14, qs_15, qs_16, qs_27, qs_17, qs_18, qs_19, qs_20, qs_22, qs_23, qs_28, qs_25, qs_26, qs_7, qs_8, kc_1, kn_1, kc_2, kn_2, kc_3, kn_3, kc_4, kn_4, kc_5, kn_5, kc_6, kn_6, kc_7, kn_7, kc_8, kn_8, kc_9, kn_9, kc_10, kn_10, kc_11, kn_11, kc_12, kn_12, kc_13, kn_13, kc_14, kn_14, kc_15, kn_15, kc_16, kc_17, kc_18, kc_19, kc_20, kc_21, kc_22, kc_23, kc_30, kc_32, kc_40, kc_43, kc_45, kc_48, kc_52, kc_56, kc_57, kc_59, kc_60, kc_61, kc_63, kc_64, kc_72, kc_78, kc_97, kc_99, kc_122, kc_126, kc_128, kc_192, kc_200, kc_255, kc_999, kc_1000, kc_9999, kn_9999, kc_10000, kc_12345, kc_65536, kc_252645135, kc_858993459, kc_1103515245, kc_1431655765, kc_2147483647, kc_0, kc_24, kc_28, kc_37, kc_41, kc_42, kc_73, kc_91, kc_95, kc_96, kc_98, kc_100, kc_112, kc_125, kc_150, kc_162, kc_163, kc_168, kc_186, kc_190, kc_250, kc_355, kc_356, kc_404, kc_405, kc_429, kc_573, kc_1002, kc_1100, kc_1891, kc_2200, kc_4719, kc_4869, kc_4881, kc_5148, kc_19741, kc_25433, kc_320403, kc_628412, kc_629093, kc_660401, kc_679843, kc_918640, kc_979410, kc_1178088, kc_6232410, kc_24644941, kc_36238189, kc_38270444, kc_392531318, kc_425693491, kc_1342154595, kc_2147483648, kc_42328242873, kc_891704255789, kc_1722105685577, kc_1858726030364, ct_0, ct_1, ct_2, ct_3, ct_4, ct_5, cf_0, cf_1, cf_2, cf_3, cf_4, cf_5, w_ty6, w_ty7, m_sv, m_z0, m_hd, m_g0, m_gs, m_s0, m_ss, m_ap, m_an, forall_const, true_and, and_true, ne_eq, not_true_eq_false, not_false_eq_true, false_implies, true_implies, implies_true, eq_self, reduceCtorEq, Nat.reduceDiv, Nat.reduceMod, Int.reduceToNat, or_true, true_or, or_false, false_or, or_self, m_it, m_if, m_c1, m_01, m_02, m_03, m_04, m_10, m_12, m_13, m_14, m_20, m_21, m_23, m_24, m_30, m_31, m_32, m_34, m_40, m_41, m_42, m_43, Int.reduceLE, Int.reduceLT, Int.reduceGE, Int.reduceGT, Int.reduceNeg, Int.reduceAdd, Int.reduceSub, Int.reduceMul, Int.reduceEq, Int.reduceNe, Nat.reduceAdd, jun2, ro_0_0, ro_0_1, ro_0_2, ro_0_3, ro_0_4, ro_0_5, ro_0_6, ro_0_7, ro_0_8, ro_0_9, ro_0_10, ro_0_11, ro_0_12, ro_1_0, ro_1_1, ro_2_0, ro_4_0, ro_6_0, ro_6_1, ro_6_2, ro_6_3, ro_6_4, ro_6_5, ro_6_6, ro_6_7, ro_6_8, ro_8_0, ro_10_0, ro_12_0, ro_14_0, ro_16_0, ro_18_0, ro_20_0, ro_22_0, ro_22_1, ro_22_2, ro_23_0, ro_25_0, ro_27_0, ro_29_0, ro_29_1, ro_29_2, ro_29_3, ro_29_4, ro_29_5, ro_29_6, ro_29_7, ro_29_8, ro_31_0, ro_33_0, ro_35_0, ro_37_0, ro_39_0, ro_41_0, ro_43_0, ro_45_0, ro_45_1, ro_45_2, ro_46_0, ro_48_0, ro_50_0, ro_52_0, ro_52_1, ro_52_2, ro_52_3, ro_53_0, ro_55_0, ro_57_0, ro_59_0, ro_61_0, ro_61_1, ro_61_2, ro_61_3, ro_62_0, ro_64_0, ro_66_0, ro_68_0, ro_70_0, ro_70_1, ro_70_2, ro_70_3, ro_70_4, ro_70_5, ro_70_6, ro_70_7, ro_70_8, ro_70_9, ro_71_0, ro_73_0, ro_75_0, ro_77_0, ro_79_0, ro_81_0, ro_83_0, ro_85_0, ro_87_0, ro_89_0, ro_91_0, ro_91_1, ro_91_2, ro_91_3, ro_91_4, ro_91_5, ro_91_6, ro_91_7, ro_91_8, ro_91_9, ro_92_0, ro_94_0, ro_96_0, ro_98_0, ro_100_0, ro_102_0, ro_104_0, ro_106_0, ro_108_0, ro_110_0, ro_112_0, ro_112_1, ro_112_2, ro_112_3, ro_112_4, ro_112_5, ro_112_6, ro_112_7, ro_112_8, ro_112_9, ro_113_0, ro_115_0, ro_117_0, ro_119_0, ro_121_0, ro_123_0, ro_125_0, ro_127_0, ro_129_0, ro_131_0, ro_133_0, ro_133_1, ro_133_2, ro_133_3, ro_133_4, ro_133_5, ro_133_6, ro_133_7, ro_133_8, ro_133_9, ro_134_0, ro_136_0, ro_138_0, ro_140_0, ro_142_0, ro_144_0, ro_146_0, ro_148_0, ro_150_0, ro_152_0, ro_154_0, ro_155_0, ro_157_0, ro_157_1, ro_157_2, ro_157_3, ro_157_4, ro_157_5, ro_157_6, ro_157_7, ro_157_8, ro_157_9, ro_158_0, ro_160_0, ro_162_0, ro_164_0, ro_166_0, ro_168_0, ro_170_0, ro_172_0, ro_174_0, ro_176_0, ro_178_0, ro_180_0, ro_182_1, ro_182_4, ro_182_5, ro_182_6, ro_182_9, ro_182_10, ro_182_11, ro_182_13, ro_182_14, ro_182_15, ro_182_16, ro_182_17, ro_182_20, ro_182_21, ro_182_22, ro_182_23, ro_182_24, ro_182_26, ro_182_27, ro_182_28, lo_3, lo_5, lo_7, lo_9, lo_11, lo_13, lo_15, lo_17, lo_19, lo_21, lo_24, lo_26, lo_28, lo_30, lo_32, lo_34, lo_36, lo_38, lo_40, lo_42, lo_44, lo_47, lo_49, lo_51, lo_54, lo_56, lo_58, lo_60, lo_63, lo_65, lo_67, lo_69, lo_72, lo_74, lo_76, lo_78, lo_80, lo_82, lo_84, lo_86, lo_88, lo_90, lo_93, lo_95, lo_97, lo_99, lo_101, lo_103, lo_105, lo_107, lo_109, lo_111, lo_114, lo_116, lo_118, lo_120, lo_122, lo_124, lo_126, lo_128, lo_130, lo_132, lo_135, lo_137, lo_139, lo_141, lo_143, lo_145, lo_147, lo_149, lo_151, lo_153, lo_156, lo_159, lo_161, lo_163, lo_165, lo_167, lo_169, lo_171, lo_173, lo_175, lo_177, lo_179, lo_181, lo_183, lo_184, lo_185, lo_186, lo_187, lo_188, lo_189, lo_190, lo_191, lo_192, lo_193, lo_194, lo_195, lo_196, lo_197, lo_198, lo_199, lo_200, lo_201, lo_202, lo_203, jp_nn, jp_eq, jp_e1, Classical.not_not, ji0, ji1, ji2, cs24_225, kk_225, cs24_228, kk_228, jl_0, jl_1, jl_2, jl_3, jl_4, jl_5, jl_6, jl_7, jl_8, jl_9, jl_10, jl_11, jl_12, jl_13, jl_14, jl_15, jl_16, jl_17, jl_18, jl_19, jl_20, jl_21, jl_22, jl_23, jl_24, jl_25, jl_26, jl_27, jl_28, jl_29, jl_30, jl_31, jl_32, jl_33, jl_34, jl_35, jl_36, jl_37, jl_38, jl_39, jl_40, jl_95, jl_96, jl_97, jl_98, jl_99, jl_100, jl_101, jl_102, jl_103, jl_104, jl_105, jl_106, jl_107, jl_108, jl_109, jl_110, jl_111, jl_112, jl_113, jl_114, jl_186, jl_1100, jr, ju, jpT, jpF, tnc, Nat.reduceEqDiff, reduceIte, and_false, false_and, not_true_eq_false, not_false_eq_true, or_false, gt_iff_lt, ge_iff_le, Int.lt_irrefl, Int.le_refl, ym, ym2, eM2]
        refine qp_lp (fun en h' => ∃ s : Nat, en = [182, (b : Int), (m : Int), (s : Int)] ∧ s ≤ 12 ∧ Fr ([], [194]) h h' ∧ (∀ q : Nat, ¬ (b ≤ q ∧ q < b + 404) → h' 194 q = h 194 q) ∧ ∀ q : Nat, q < 404 → h' 194 (b + q) = if q < 78 then -1 else if q < 78 + 12 * m + s then h 188 (75 + 3 * ((q - 78) / 12)) else 0) ⟨0, rfl, by omega, hf2, ho2, hq2⟩ ?_
        intro en h3 ⟨s, e1_w, hs, hf3, ho3, hq3⟩
        subst e1_w
        by_cases ys : (s : Int) < 12
        · have ys2 : ¬ (12 : Int) ≤ (s : Int) := by omega
          have ek := jk1 (k := s) (by omega)
          have ei : j32 (j32 (j32 ((b : Int) + 78) + j32 (12 * (m : Int))) + (s : Int)) = ((b + (78 + 12 * m + s) : Nat) : Int) := by
            rw [jcn (x := (b : Int) + 78) (n := b + 78) (by omega) (by omega), jcn (x := 12 * (m : Int)) (n := 12 * m) (by omega) (by omega), jcn (x := ((b + 78 : Nat) : Int) + ((12 * m : Nat) : Int)) (n := b + 78 + 12 * m) (by omega) (by omega)]
            exact jcn (by omega) (by omega)
          have eg : j32 (j32 (73 + j32 (3 * (m : Int))) + 2) = ((75 + 3 * m : Nat) : Int) := by
            rw [jcn (x := 3 * (m : Int)) (n := 3 * m) (by omega) (by omega), jcn (x := 73 + ((3 * m : Nat) : Int)) (n := 73 + 3 * m) (by omega) (by omega)]
            exact jcn (by omega) (by omega)
          simp only [qe_1, qe_3, qe_4, qe_5, qe_7, qe_72, qe_10, qe_102, qe_13, qe_14, qe_15, qe_16, qe_17, qe_18, qe_20, qe_22, qe_23, qe_21, qe_24, qe_25, qe_26, qe_27, qe_28, qe_30, qe_31, qe_32, qc_20, qc_22, qc_23, qc_21, qc_24, qc_25, qc_26, qc_27, qc_1, qc_3, qc_4, qc_7, qc_13, qc_28, qc_32, qs_1, qs_2, qs_3, qs_4, qs_5, qs_6, qs_9, qs_10, qs_11, qs_14, qs_15, qs_16, qs_27, qs_17, qs_18, qs_19, qs_20, qs_22, qs_23, qs_28, qs_25, qs_26, qs_7, qs_8, kc_1, kn_1, kc_2, kn_2, kc_3, kn_3, kc_4, kn_4, kc_5, kn_5, kc_6, kn_6, kc_7, kn_7, kc_8, kn_8, kc_9, kn_9, kc_10, kn_10, kc_11, kn_11, kc_12, kn_12, kc_13, kn_13, kc_14, kn_14, kc_15, kn_15, kc_16, kc_17, kc_18, kc_19, kc_20, kc_21, kc_22, kc_23, kc_30, kc_32, kc_40, kc_43, kc_45, kc_48, kc_52, kc_56, kc_57, kc_59, kc_60, kc_61, kc_63, kc_64, kc_72, kc_78, kc_97, kc_99, kc_122, kc_126, kc_128, kc_192, kc_200, kc_255, kc_999, kc_1000, kc_9999, kn_9999, kc_10000, kc_12345, kc_65536, kc_252645135, kc_858993459, kc_1103515245, kc_1431655765, kc_2147483647, kc_0, kc_24, kc_28, kc_37, kc_41, kc_42, kc_73, kc_91, kc_95, kc_96, kc_98, kc_100, kc_112, kc_125, kc_150, kc_162, kc_163, kc_168, kc_186, kc_190, kc_250, kc_355, kc_356, kc_404, kc_405, kc_429, kc_573, kc_1002, kc_1100, kc_1891, kc_2200, kc_4719, kc_4869, kc_4881, kc_5148, kc_19741, kc_25433, kc_320403, kc_628412, kc_629093, kc_660401, kc_679843, kc_918640, kc_979410, kc_1178088, kc_6232410, kc_24644941, kc_36238189, kc_38270444, kc_392531318, kc_425693491, kc_1342154595, kc_2147483648, kc_42328242873, kc_891704255789, kc_1722105685577, kc_1858726030364, ct_0, ct_1, ct_2, ct_3, ct_4, ct_5, cf_0, cf_1, cf_2, cf_3, cf_4, cf_5, w_ty6, w_ty7, m_sv, m_z0, m_hd, m_g0, m_gs, m_s0, m_ss, m_ap, m_an, forall_const, true_and, and_true, ne_eq, not_true_eq_false, not_false_eq_true, false_implies, true_implies, implies_true, eq_self, reduceCtorEq, Nat.reduceDiv, Nat.reduceMod, Int.reduceToNat, or_true, true_or, or_false, false_or, or_self, m_it, m_if, m_c1, m_01, m_02, m_03, m_04, m_10, m_12, m_13, m_14, m_20, m_21, m_23, m_24, m_30, m_31, m_32, m_34, m_40, m_41, m_42, m_43, Int.reduceLE, Int.reduceLT, Int.reduceGE, Int.reduceGT, Int.reduceNeg, Int.reduceAdd, Int.reduceSub, Int.reduceMul, Int.reduceEq, Int.reduceNe, Nat.reduceAdd, jun2, ro_0_0, ro_0_1, ro_0_2, ro_0_3, ro_0_4, ro_0_5, ro_0_6, ro_0_7, ro_0_8, ro_0_9, ro_0_10, ro_0_11, ro_0_12, ro_1_0, ro_1_1, ro_2_0, ro_4_0, ro_6_0, ro_6_1, ro_6_2, ro_6_3, ro_6_4, ro_6_5, ro_6_6, ro_6_7, ro_6_8, ro_8_0, ro_10_0, ro_12_0, ro_14_0, ro_16_0, ro_18_0, ro_20_0, ro_22_0, ro_22_1, ro_22_2, ro_23_0, ro_25_0, ro_27_0, ro_29_0, ro_29_1, ro_29_2, ro_29_3, ro_29_4, ro_29_5, ro_29_6, ro_29_7, ro_29_8, ro_31_0, ro_33_0, ro_35_0, ro_37_0, ro_39_0, ro_41_0, ro_43_0, ro_45_0, ro_45_1, ro_45_2, ro_46_0, ro_48_0, ro_50_0, ro_52_0, ro_52_1, ro_52_2, ro_52_3, ro_53_0, ro_55_0, ro_57_0, ro_59_0, ro_61_0, ro_61_1, ro_61_2, ro_61_3, ro_62_0, ro_64_0, ro_66_0, ro_68_0, ro_70_0, ro_70_1, ro_70_2, ro_70_3, ro_70_4, ro_70_5, ro_70_6, ro_70_7, ro_70_8, ro_70_9, ro_71_0, ro_73_0, ro_75_0, ro_77_0, ro_79_0, ro_81_0, ro_83_0, ro_85_0, ro_87_0, ro_89_0, ro_91_0, ro_91_1, ro_91_2, ro_91_3, ro_91_4, ro_91_5, ro_91_6, ro_91_7, ro_91_8, ro_91_9, ro_92_0, ro_94_0, ro_96_0, ro_98_0, ro_100_0, ro_102_0, ro_104_0, ro_106_0, ro_108_0, ro_110_0, ro_112_0, ro_112_1, ro_112_2, ro_112_3, ro_112_4, ro_112_5, ro_112_6, ro_112_7, ro_112_8, ro_112_9, ro_113_0, ro_115_0, ro_117_0, ro_119_0, ro_121_0, ro_123_0, ro_125_0, ro_127_0, ro_129_0, ro_131_0, ro_133_0, ro_133_1, ro_133_2, ro_133_3, ro_133_4, ro_133_5, ro_133_6, ro_133_7, ro_133_8, ro_133_9, ro_134_0, ro_136_0, ro_138_0, ro_140_0, ro_142_0, ro_144_0, ro_146_0, ro_148_0, ro_150_0, ro_152_0, ro_154_0, ro_155_0, ro_157_0, ro_157_1, ro_157_2, ro_157_3, ro_157_4, ro_157_5, ro_157_6, ro_157_7, ro_157_8, ro_157_9, ro_158_0, ro_160_0, ro_162_0, ro_164_0, ro_166_0, ro_168_0, ro_170_0, ro_172_0, ro_174_0, ro_176_0, ro_178_0, ro_180_0, ro_182_1, ro_182_4, ro_182_5, ro_182_6, ro_182_9, ro_182_10, ro_182_11, ro_182_13, ro_182_14, ro_182_15, ro_182_16, ro_182_17, ro_182_20, ro_182_21, ro_182_22, ro_182_23, ro_182_24, ro_182_26, ro_182_27, ro_182_28, lo_3, lo_5, lo_7, lo_9, lo_11, lo_13, lo_15, lo_17, lo_19, lo_21, lo_24, lo_26, lo_28, lo_30, lo_32, lo_34, lo_36, lo_38, lo_40, lo_42, lo_44, lo_47, lo_49, lo_51, lo_54, lo_56, lo_58, lo_60, lo_63, lo_65, lo_67, lo_69, lo_72, lo_74, lo_76, lo_78, lo_80, lo_82, lo_84, lo_86, lo_88, lo_90, lo_93, lo_95, lo_97, lo_99, lo_101, lo_103, lo_105, lo_107, lo_109, lo_111, lo_114, lo_116, lo_118, lo_120, lo_122, lo_124, lo_126, lo_128, lo_130, lo_132, lo_135, lo_137, lo_139, lo_141, lo_143, lo_145, lo_147, lo_149, lo_151, lo_153, lo_156, lo_159, lo_161, lo_163, lo_165, lo_167, lo_169, lo_171, lo_173, lo_175, lo_177, lo_179, lo_181, lo_183, lo_184, lo_185, lo_186, lo_187, lo_188, lo_189, lo_190, lo_191, lo_192, lo_193, lo_194, lo_195, lo_196, lo_197, lo_198, lo_199, lo_200, lo_201, lo_202, lo_203, jp_nn, jp_eq, jp_e1, Classical.not_not, ji0, ji1, ji2, cs24_225, kk_225, cs24_228, kk_228, jl_0, jl_1, jl_2, jl_3, jl_4, jl_5, jl_6, jl_7, jl_8, jl_9, jl_10, jl_11, jl_12, jl_13, jl_14, jl_15, jl_16, jl_17, jl_18, jl_19, jl_20, jl_21, jl_22, jl_23, jl_24, jl_25, jl_26, jl_27, jl_28, jl_29, jl_30, jl_31, jl_32, jl_33, jl_34, jl_35, jl_36, jl_37, jl_38, jl_39, jl_40, jl_95, jl_96, jl_97, jl_98, jl_99, jl_100, jl_101, jl_102, jl_103, jl_104, jl_105, jl_106, jl_107, jl_108, jl_109, jl_110, jl_111, jl_112, jl_113, jl_114, jl_186, jl_1100, jr, ju, jpT, jpF, tnc, Nat.reduceEqDiff, reduceIte, and_false, false_and, not_true_eq_false, not_false_eq_true, or_false, gt_iff_lt, ge_iff_le, Int.lt_irrefl, Int.le_refl, ys, ys2, ek, ei, eg]
          intros
          refine ⟨s + 1, rfl, by omega, Fr.tr hf3 (Fr.arr rfl), fun q z => ?_, fun q z => ?_⟩
          · rw [if_neg (by omega)]
            exact ho3 q z
          · by_cases yq : q = 78 + 12 * m + s
            · rw [if_pos (by omega), if_neg (by omega), if_pos (by omega), e8 hf3]
              exact congrArg (h 188) (by omega)
            · rw [if_neg (by omega), hq3 q z]
              by_cases y7 : q < 78
              · rw [if_pos y7, if_pos y7]
              · rw [if_neg y7, if_neg y7]
                by_cases y8 : q < 78 + 12 * m + s
                · rw [if_pos y8, if_pos (by omega)]
                · rw [if_neg y8, if_neg (by omega)]
        · have ys2 : (12 : Int) ≤ (s : Int) := by omega
          have e12_w : s = 12 := by omega
          subst e12_w
          have ek := jk1 (k := m) (by omega)
          simp only [qe_1, qe_3, qe_4, qe_5, qe_7, qe_72, qe_10, qe_102, qe_13, qe_14, qe_15, qe_16, qe_17, qe_18, qe_20, qe_22, qe_23, qe_21, qe_24, qe_25, qe_26, qe_27, qe_28, qe_30, qe_31, qe_32, qc_20, qc_22, qc_23, qc_21, qc_24, qc_25, qc_26, qc_27, qc_1, qc_3, qc_4, qc_7, qc_13, qc_28, qc_32, qs_1, qs_2, qs_3, qs_4, qs_5, qs_6, qs_9, qs_10, qs_11, qs_14, qs_15, qs_16, qs_27, qs_17, qs_18, qs_19, qs_20, qs_22, qs_23, qs_28, qs_25, qs_26, qs_7, qs_8, kc_1, kn_1, kc_2, kn_2, kc_3, kn_3, kc_4, kn_4, kc_5, kn_5, kc_6, kn_6, kc_7, kn_7, kc_8, kn_8, kc_9, kn_9, kc_10, kn_10, kc_11, kn_11, kc_12, kn_12, kc_13, kn_13, kc_14, kn_14, kc_15, kn_15, kc_16, kc_17, kc_18, kc_19, kc_20, kc_21, kc_22, kc_23, kc_30, kc_32, kc_40, kc_43, kc_45, kc_48, kc_52, kc_56, kc_57, kc_59, kc_60, kc_61, kc_63, kc_64, kc_72, kc_78, kc_97, kc_99, kc_122, kc_126, kc_128, kc_192, kc_200, kc_255, kc_999, kc_1000, kc_9999, kn_9999, kc_10000, kc_12345, kc_65536, kc_252645135, kc_858993459, kc_1103515245, kc_1431655765, kc_2147483647, kc_0, kc_24, kc_28, kc_37, kc_41, kc_42, kc_73, kc_91, kc_95, kc_96, kc_98, kc_100, kc_112, kc_125, kc_150, kc_162, kc_163, kc_168, kc_186, kc_190, kc_250, kc_355, kc_356, kc_404, kc_405, kc_429, kc_573, kc_1002, kc_1100, kc_1891, kc_2200, kc_4719, kc_4869, kc_4881, kc_5148, kc_19741, kc_25433, kc_320403, kc_628412, kc_629093, kc_660401, kc_679843, kc_918640, kc_979410, kc_1178088, kc_6232410, kc_24644941, kc_36238189, kc_38270444, kc_392531318, kc_425693491, kc_1342154595, kc_2147483648, kc_42328242873, kc_891704255789, kc_1722105685577, kc_1858726030364, ct_0, ct_1, ct_2, ct_3, ct_4, ct_5, cf_0, cf_1, cf_2, cf_3, cf_4, cf_5, w_ty6, w_ty7, m_sv, m_z0, m_hd, m_g0, m_gs, m_s0, m_ss, m_ap, m_an, forall_const, true_and, and_true, ne_eq, not_true_eq_false, not_false_eq_true, false_implies, true_implies, implies_true, eq_self, reduceCtorEq, Nat.reduceDiv, Nat.reduceMod, Int.reduceToNat, or_true, true_or, or_false, false_or, or_self, m_it, m_if, m_c1, m_01, m_02, m_03, m_04, m_10, m_12, m_13, m_14, m_20, m_21, m_23, m_24, m_30, m_31, m_32, m_34, m_40, m_41, m_42, m_43, Int.reduceLE, Int.reduceLT, Int.reduceGE, Int.reduceGT, Int.reduceNeg, Int.reduceAdd, Int.reduceSub, Int.reduceMul, Int.reduceEq, Int.reduceNe, Nat.reduceAdd, jun2, ro_0_0, ro_0_1, ro_0_2, ro_0_3, ro_0_4, ro_0_5, ro_0_6, ro_0_7, ro_0_8, ro_0_9, ro_0_10, ro_0_11, ro_0_12, ro_1_0, ro_1_1, ro_2_0, ro_4_0, ro_6_0, ro_6_1, ro_6_2, ro_6_3, ro_6_4, ro_6_5, ro_6_6, ro_6_7, ro_6_8, ro_8_0, ro_10_0, ro_12_0, ro_14_0, ro_16_0, ro_18_0, ro_20_0, ro_22_0, ro_22_1, ro_22_2, ro_23_0, ro_25_0, ro_27_0, ro_29_0, ro_29_1, ro_29_2, ro_29_3, ro_29_4, ro_29_5, ro_29_6, ro_29_7, ro_29_8, ro_31_0, ro_33_0, ro_35_0, ro_37_0, ro_39_0, ro_41_0, ro_43_0, ro_45_0, ro_45_1, ro_45_2, ro_46_0, ro_48_0, ro_50_0, ro_52_0, ro_52_1, ro_52_2, ro_52_3, ro_53_0, ro_55_0, ro_57_0, ro_59_0, ro_61_0, ro_61_1, ro_61_2, ro_61_3, ro_62_0, ro_64_0, ro_66_0, ro_68_0, ro_70_0, ro_70_1, ro_70_2, ro_70_3, ro_70_4, ro_70_5, ro_70_6, ro_70_7, ro_70_8, ro_70_9, ro_71_0, ro_73_0, ro_75_0, ro_77_0, ro_79_0, ro_81_0, ro_83_0, ro_85_0, ro_87_0, ro_89_0, ro_91_0, ro_91_1, ro_91_2, ro_91_3, ro_91_4, ro_91_5, ro_91_6, ro_91_7, ro_91_8, ro_91_9, ro_92_0, ro_94_0, ro_96_0, ro_98_0, ro_100_0, ro_102_0, ro_104_0, ro_106_0, ro_108_0, ro_110_0, ro_112_0, ro_112_1, ro_112_2, ro_112_3, ro_112_4, ro_112_5, ro_112_6, ro_112_7, ro_112_8, ro_112_9, ro_113_0, ro_115_0, ro_117_0, ro_119_0, ro_121_0, ro_123_0, ro_125_0, ro_127_0, ro_129_0, ro_131_0, ro_133_0, ro_133_1, ro_133_2, ro_133_3, ro_133_4, ro_133_5, ro_133_6, ro_133_7, ro_133_8, ro_133_9, ro_134_0, ro_136_0, ro_138_0, ro_140_0, ro_142_0, ro_144_0, ro_146_0, ro_148_0, ro_150_0, ro_152_0, ro_154_0, ro_155_0, ro_157_0, ro_157_1, ro_157_2, ro_157_3, ro_157_4, ro_157_5, ro_157_6, ro_157_7, ro_157_8, ro_157_9, ro_158_0, ro_160_0, ro_162_0, ro_164_0, ro_166_0, ro_168_0, ro_170_0, ro_172_0, ro_174_0, ro_176_0, ro_178_0, ro_180_0, ro_182_1, ro_182_4, ro_182_5, ro_182_6, ro_182_9, ro_182_10, ro_182_11, ro_182_13, ro_182_14, ro_182_15, ro_182_16, ro_182_17, ro_182_20, ro_182_21, ro_182_22, ro_182_23, ro_182_24, ro_182_26, ro_182_27, ro_182_28, lo_3, lo_5, lo_7, lo_9, lo_11, lo_13, lo_15, lo_17, lo_19, lo_21, lo_24, lo_26, lo_28, lo_30, lo_32, lo_34, lo_36, lo_38, lo_40, lo_42, lo_44, lo_47, lo_49, lo_51, lo_54, lo_56, lo_58, lo_60, lo_63, lo_65, lo_67, lo_69, lo_72, lo_74, lo_76, lo_78, lo_80, lo_82, lo_84, lo_86, lo_88, lo_90, lo_93, lo_95, lo_97, lo_99, lo_101, lo_103, lo_105, lo_107, lo_109, lo_111, lo_114, lo_116, lo_118, lo_120, lo_122, lo_124, lo_126, lo_128, lo_130, lo_132, lo_135, lo_137, lo_139, lo_141, lo_143, lo_145, lo_147, lo_149, lo_151, lo_153, lo_156, lo_159, lo_161, lo_163, lo_165, lo_167, lo_169, lo_171, lo_173, lo_175, lo_177, lo_179, lo_181, lo_183, lo_184, lo_185, lo_186, lo_187, lo_188, lo_189, lo_190, lo_191, lo_192, lo_193, lo_194, lo_195, lo_196, lo_197, lo_198, lo_199, lo_200, lo_201, lo_202, lo_203, jp_nn, jp_eq, jp_e1, Classical.not_not, ji0, ji1, ji2, cs24_225, kk_225, cs24_228, kk_228, jl_0, jl_1, jl_2, jl_3, jl_4, jl_5, jl_6, jl_7, jl_8, jl_9, jl_10, jl_11, jl_12, jl_13, jl_14, jl_15, jl_16, jl_17, jl_18, jl_19, jl_20, jl_21, jl_22, jl_23, jl_24, jl_25, jl_26, jl_27, jl_28, jl_29, jl_30, jl_31, jl_32, jl_33, jl_34, jl_35, jl_36, jl_37, jl_38, jl_39, jl_40, jl_95, jl_96, jl_97, jl_98, jl_99, jl_100, jl_101, jl_102, jl_103, jl_104, jl_105, jl_106, jl_107, jl_108, jl_109, jl_110, jl_111, jl_112, jl_113, jl_114, jl_186, jl_1100, jr, ju, jpT, jpF, tnc, Nat.reduceEqDiff, reduceIte, and_false, false_and, not_true_eq_false, not_false_eq_true, or_false, gt_iff_lt, ge_iff_le, Int.lt_irrefl, Int.le_refl, ys, ys2, ek]
          exact ⟨m + 1, _, rfl, by omega, hf3, ho3, hq3⟩
      · have ym2 : (M : Int) ≤ (m : Int) := by omega
        have em : m = M := by omega
        subst em
        simp only [qe_1, qe_3, qe_4, qe_5, qe_7, qe_72, qe_10, qe_102, qe_13, qe_14, qe_15, qe_16, qe_17, qe_18, qe_20, qe_22, qe_23, qe_21, qe_24, qe_25, qe_26, qe_27, qe_28, qe_30, qe_31, qe_32, qc_20, qc_22, qc_23, qc_21, qc_24, qc_25, qc_26, qc_27, qc_1, qc_3, qc_4, qc_7, qc_13, qc_28, qc_32, qs_1, qs_2, qs_3, qs_4, qs_5, qs_6, qs_9, qs_10, qs_11, qs_14, qs_15, qs_16, qs_27, qs_17, qs_18, qs_19, qs_20, qs_22, qs_23, qs_28, qs_25, qs_26, qs_7, qs_8, kc_1, kn_1, kc_2, kn_2, kc_3, kn_3, kc_4, kn_4, kc_5, kn_5, kc_6, kn_6, kc_7, kn_7, kc_8, kn_8, kc_9, kn_9, kc_10, kn_10, kc_11, kn_11, kc_12, kn_12, kc_13, kn_13, kc_14, kn_14, kc_15, kn_15, kc_16, kc_17, kc_18, kc_19, kc_20, kc_21, kc_22, kc_23, kc_30, kc_32, kc_40, kc_43, kc_45, kc_48, kc_52, kc_56, kc_57, kc_59, kc_60, kc_61, kc_63, kc_64, kc_72, kc_78, kc_97, kc_99, kc_122, kc_126, kc_128, kc_192, kc_200, kc_255, kc_999, kc_1000, kc_9999, kn_9999, kc_10000, kc_12345, kc_65536, kc_252645135, kc_858993459, kc_1103515245, kc_1431655765, kc_2147483647, kc_0, kc_24, kc_28, kc_37, kc_41, kc_42, kc_73, kc_91, kc_95, kc_96, kc_98, kc_100, kc_112, kc_125, kc_150, kc_162, kc_163, kc_168, kc_186, kc_190, kc_250, kc_355, kc_356, kc_404, kc_405, kc_429, kc_573, kc_1002, kc_1100, kc_1891, kc_2200, kc_4719, kc_4869, kc_4881, kc_5148, kc_19741, kc_25433, kc_320403, kc_628412, kc_629093, kc_660401, kc_679843, kc_918640, kc_979410, kc_1178088, kc_6232410, kc_24644941, kc_36238189, kc_38270444, kc_392531318, kc_425693491, kc_1342154595, kc_2147483648, kc_42328242873, kc_891704255789, kc_1722105685577, kc_1858726030364, ct_0, ct_1, ct_2, ct_3, ct_4, ct_5, cf_0, cf_1, cf_2, cf_3, cf_4, cf_5, w_ty6, w_ty7, m_sv, m_z0, m_hd, m_g0, m_gs, m_s0, m_ss, m_ap, m_an, forall_const, true_and, and_true, ne_eq, not_true_eq_false, not_false_eq_true, false_implies, true_implies, implies_true, eq_self, reduceCtorEq, Nat.reduceDiv, Nat.reduceMod, Int.reduceToNat, or_true, true_or, or_false, false_or, or_self, m_it, m_if, m_c1, m_01, m_02, m_03, m_04, m_10, m_12, m_13, m_14, m_20, m_21, m_23, m_24, m_30, m_31, m_32, m_34, m_40, m_41, m_42, m_43, Int.reduceLE, Int.reduceLT, Int.reduceGE, Int.reduceGT, Int.reduceNeg, Int.reduceAdd, Int.reduceSub, Int.reduceMul, Int.reduceEq, Int.reduceNe, Nat.reduceAdd, jun2, ro_0_0, ro_0_1, ro_0_2, ro_0_3, ro_0_4, ro_0_5, ro_0_6, ro_0_7, ro_0_8, ro_0_9, ro_0_10, ro_0_11, ro_0_12, ro_1_0, ro_1_1, ro_2_0, ro_4_0, ro_6_0, ro_6_1, ro_6_2, ro_6_3, ro_6_4, ro_6_5, ro_6_6, ro_6_7, ro_6_8, ro_8_0, ro_10_0, ro_12_0, ro_14_0, ro_16_0, ro_18_0, ro_20_0, ro_22_0, ro_22_1, ro_22_2, ro_23_0, ro_25_0, ro_27_0, ro_29_0, ro_29_1, ro_29_2, ro_29_3, ro_29_4, ro_29_5, ro_29_6, ro_29_7, ro_29_8, ro_31_0, ro_33_0, ro_35_0, ro_37_0, ro_39_0, ro_41_0, ro_43_0, ro_45_0, ro_45_1, ro_45_2, ro_46_0, ro_48_0, ro_50_0, ro_52_0, ro_52_1, ro_52_2, ro_52_3, ro_53_0, ro_55_0, ro_57_0, ro_59_0, ro_61_0, ro_61_1, ro_61_2, ro_61_3, ro_62_0, ro_64_0, ro_66_0, ro_68_0, ro_70_0, ro_70_1, ro_70_2, ro_70_3, ro_70_4, ro_70_5, ro_70_6, ro_70_7, ro_70_8, ro_70_9, ro_71_0, ro_73_0, ro_75_0, ro_77_0, ro_79_0, ro_81_0, ro_83_0, ro_85_0, ro_87_0, ro_89_0, ro_91_0, ro_91_1, ro_91_2, ro_91_3, ro_91_4, ro_91_5, ro_91_6, ro_91_7, ro_91_8, ro_91_9, ro_92_0, ro_94_0, ro_96_0, ro_98_0, ro_100_0, ro_102_0, ro_104_0, ro_106_0, ro_108_0, ro_110_0, ro_112_0, ro_112_1, ro_112_2, ro_112_3, ro_112_4, ro_112_5, ro_112_6, ro_112_7, ro_112_8, ro_112_9, ro_113_0, ro_115_0, ro_117_0, ro_119_0, ro_121_0, ro_123_0, ro_125_0, ro_127_0, ro_129_0, ro_131_0, ro_133_0, ro_133_1, ro_133_2, ro_133_3, ro_133_4, ro_133_5, ro_133_6, ro_133_7, ro_133_8, ro_133_9, ro_134_0, ro_136_0, ro_138_0, ro_140_0, ro_142_0, ro_144_0, ro_146_0, ro_148_0, ro_150_0, ro_152_0, ro_154_0, ro_155_0, ro_157_0, ro_157_1, ro_157_2, ro_157_3, ro_157_4, ro_157_5, ro_157_6, ro_157_7, ro_157_8, ro_157_9, ro_158_0, ro_160_0, ro_162_0, ro_164_0, ro_166_0, ro_168_0, ro_170_0, ro_172_0, ro_174_0, ro_176_0, ro_178_0, ro_180_0, ro_182_1, ro_182_4, ro_182_5, ro_182_6, ro_182_9, ro_182_10, ro_182_11, ro_182_13, ro_182_14, ro_182_15, ro_182_16, ro_182_17, ro_182_20, ro_182_21, ro_182_22, ro_182_23, ro_182_24, ro_182_26, ro_182_27, ro_182_28, lo_3, lo_5, lo_7, lo_9, lo_11, lo_13, lo_15, lo_17, lo_19, lo_21, lo_24, lo_26, lo_28, lo_30, lo_32, lo_34, lo_36, lo_38, lo_40, lo_42, lo_44, lo_47, lo_49, lo_51, lo_54, lo_56, lo_58, lo_60, lo_63, lo_65, lo_67, lo_69, lo_72, lo_74, lo_76, lo_78, lo_80, lo_82, lo_84, lo_86, lo_88, lo_90, lo_93, lo_95, lo_97, lo_99, lo_101, lo_103, lo_105, lo_107, lo_109, lo_111, lo_114, lo_116, lo_118, lo_120, lo_122, lo_124, lo_126, lo_128, lo_130, lo_132, lo_135, lo_137, lo_139, lo_141, lo_143, lo_145, lo_147, lo_149, lo_151, lo_153, lo_156, lo_159, lo_161, lo_163, lo_165, lo_167, lo_169, lo_171, lo_173, lo_175, lo_177, lo_179, lo_181, lo_183, lo_184, lo_185, lo_186, lo_187, lo_188, lo_189, lo_190, lo_191, lo_192, lo_193, lo_194, lo_195, lo_196, lo_197, lo_198, lo_199, lo_200, lo_201, lo_202, lo_203, jp_nn, jp_eq, jp_e1, Classical.not_not, ji0, ji1, ji2, cs24_225, kk_225, cs24_228, kk_228, jl_0, jl_1, jl_2, jl_3, jl_4, jl_5, jl_6, jl_7, jl_8, jl_9, jl_10, jl_11, jl_12, jl_13, jl_14, jl_15, jl_16, jl_17, jl_18, jl_19, jl_20, jl_21, jl_22, jl_23, jl_24, jl_25, jl_26, jl_27, jl_28, jl_29, jl_30, jl_31, jl_32, jl_33, jl_34, jl_35, jl_36, jl_37, jl_38, jl_39, jl_40, jl_95, jl_96, jl_97, jl_98, jl_99, jl_100, jl_101, jl_102, jl_103, jl_104, jl_105, jl_106, jl_107, jl_108, jl_109, jl_110, jl_111, jl_112, jl_113, jl_114, jl_186, jl_1100, jr, ju, jpT, jpF, tnc, Nat.reduceEqDiff, reduceIte, and_false, false_and, not_true_eq_false, not_false_eq_true, or_false, gt_iff_lt, ge_iff_le, Int.lt_irrefl, Int.le_refl, ym, ym2, eM2]
        refine qp_lp (fun en h' => ∃ (k : Nat) (w : Int), en = [182, (b : Int), (k : Int), w] ∧ k ≤ S ∧ Fr ([], [194]) h h' ∧ (∀ q : Nat, ¬ (b ≤ q ∧ q < b + 404) → h' 194 q = h 194 q) ∧ ∀ q : Nat, q < 404 → h' 194 (b + q) = if q < 78 then -1 else if q < 78 + 12 * m then h 188 (75 + 3 * ((q - 78) / 12)) else if 150 ≤ q ∧ q < 150 + k then h 188 (5 + (q - 150)) else 0) ⟨0, w, rfl, by omega, hf2, ho2, fun q z => by rw [hq2 q z, if_neg (show ¬ (150 ≤ q ∧ q < 150 + 0) by omega)]⟩ ?_
        intro en h3 ⟨k, w2_w, e1_w, hk3, hf3, ho3, hq3⟩
        subst e1_w
        have eS3 : h3 188 0 = (S : Int) := by rw [e8 hf3]; exact eS
        by_cases yk : (k : Int) < (S : Int)
        · have yk2 : ¬ (S : Int) ≤ (k : Int) := by omega
          have ek := jk1 (k := k) (by omega)
          have ei : j32 (j32 ((b : Int) + 150) + (k : Int)) = ((b + (150 + k) : Nat) : Int) := by
            rw [jcn (x := (b : Int) + 150) (n := b + 150) (by omega) (by omega)]
            exact jcn (by omega) (by omega)
          have eg : j32 (5 + (k : Int)) = ((5 + k : Nat) : Int) := jcn (by omega) (by omega)
          simp only [qe_1, qe_3, qe_4, qe_5, qe_7, qe_72, qe_10, qe_102, qe_13, qe_14, qe_15, qe_16, qe_17, qe_18, qe_20, qe_22, qe_23, qe_21, qe_24, qe_25, qe_26, qe_27, qe_28, qe_30, qe_31, qe_32, qc_20, qc_22, qc_23, qc_21, qc_24, qc_25, qc_26, qc_27, qc_1, qc_3, qc_4, qc_7, qc_13, qc_28, qc_32, qs_1, qs_2, qs_3, qs_4, qs_5, qs_6, qs_9, qs_10, qs_11, qs_14, qs_15, qs_16, qs_27, qs_17, qs_18, qs_19, qs_20, qs_22, qs_23, qs_28, qs_25, qs_26, qs_7, qs_8, kc_1, kn_1, kc_2, kn_2, kc_3, kn_3, kc_4, kn_4, kc_5, kn_5, kc_6, kn_6, kc_7, kn_7, kc_8, kn_8, kc_9, kn_9, kc_10, kn_10, kc_11, kn_11, kc_12, kn_12, kc_13, kn_13, kc_14, kn_14, kc_15, kn_15, kc_16, kc_17, kc_18, kc_19, kc_20, kc_21, kc_22, kc_23, kc_30, kc_32, kc_40, kc_43, kc_45, kc_48, kc_52, kc_56, kc_57, kc_59, kc_60, kc_61, kc_63, kc_64, kc_72, kc_78, kc_97, kc_99, kc_122, kc_126, kc_128, kc_192, kc_200, kc_255, kc_999, kc_1000, kc_9999, kn_9999, kc_10000, kc_12345, kc_65536, kc_252645135, kc_858993459, kc_1103515245, kc_1431655765, kc_2147483647, kc_0, kc_24, kc_28, kc_37, kc_41, kc_42, kc_73, kc_91, kc_95, kc_96, kc_98, kc_100, kc_112, kc_125, kc_150, kc_162, kc_163, kc_168, kc_186, kc_190, kc_250, kc_355, kc_356, kc_404, kc_405, kc_429, kc_573, kc_1002, kc_1100, kc_1891, kc_2200, kc_4719, kc_4869, kc_4881, kc_5148, kc_19741, kc_25433, kc_320403, kc_628412, kc_629093, kc_660401, kc_679843, kc_918640, kc_979410, kc_1178088, kc_6232410, kc_24644941, kc_36238189, kc_38270444, kc_392531318, kc_425693491, kc_1342154595, kc_2147483648, kc_42328242873, kc_891704255789, kc_1722105685577, kc_1858726030364, ct_0, ct_1, ct_2, ct_3, ct_4, ct_5, cf_0, cf_1, cf_2, cf_3, cf_4, cf_5, w_ty6, w_ty7, m_sv, m_z0, m_hd, m_g0, m_gs, m_s0, m_ss, m_ap, m_an, forall_const, true_and, and_true, ne_eq, not_true_eq_false, not_false_eq_true, false_implies, true_implies, implies_true, eq_self, reduceCtorEq, Nat.reduceDiv, Nat.reduceMod, Int.reduceToNat, or_true, true_or, or_false, false_or, or_self, m_it, m_if, m_c1, m_01, m_02, m_03, m_04, m_10, m_12, m_13, m_14, m_20, m_21, m_23, m_24, m_30, m_31, m_32, m_34, m_40, m_41, m_42, m_43, Int.reduceLE, Int.reduceLT, Int.reduceGE, Int.reduceGT, Int.reduceNeg, Int.reduceAdd, Int.reduceSub, Int.reduceMul, Int.reduceEq, Int.reduceNe, Nat.reduceAdd, jun2, ro_0_0, ro_0_1, ro_0_2, ro_0_3, ro_0_4, ro_0_5, ro_0_6, ro_0_7, ro_0_8, ro_0_9, ro_0_10, ro_0_11, ro_0_12, ro_1_0, ro_1_1, ro_2_0, ro_4_0, ro_6_0, ro_6_1, ro_6_2, ro_6_3, ro_6_4, ro_6_5, ro_6_6, ro_6_7, ro_6_8, ro_8_0, ro_10_0, ro_12_0, ro_14_0, ro_16_0, ro_18_0, ro_20_0, ro_22_0, ro_22_1, ro_22_2, ro_23_0, ro_25_0, ro_27_0, ro_29_0, ro_29_1, ro_29_2, ro_29_3, ro_29_4, ro_29_5, ro_29_6, ro_29_7, ro_29_8, ro_31_0, ro_33_0, ro_35_0, ro_37_0, ro_39_0, ro_41_0, ro_43_0, ro_45_0, ro_45_1, ro_45_2, ro_46_0, ro_48_0, ro_50_0, ro_52_0, ro_52_1, ro_52_2, ro_52_3, ro_53_0, ro_55_0, ro_57_0, ro_59_0, ro_61_0, ro_61_1, ro_61_2, ro_61_3, ro_62_0, ro_64_0, ro_66_0, ro_68_0, ro_70_0, ro_70_1, ro_70_2, ro_70_3, ro_70_4, ro_70_5, ro_70_6, ro_70_7, ro_70_8, ro_70_9, ro_71_0, ro_73_0, ro_75_0, ro_77_0, ro_79_0, ro_81_0, ro_83_0, ro_85_0, ro_87_0, ro_89_0, ro_91_0, ro_91_1, ro_91_2, ro_91_3, ro_91_4, ro_91_5, ro_91_6, ro_91_7, ro_91_8, ro_91_9, ro_92_0, ro_94_0, ro_96_0, ro_98_0, ro_100_0, ro_102_0, ro_104_0, ro_106_0, ro_108_0, ro_110_0, ro_112_0, ro_112_1, ro_112_2, ro_112_3, ro_112_4, ro_112_5, ro_112_6, ro_112_7, ro_112_8, ro_112_9, ro_113_0, ro_115_0, ro_117_0, ro_119_0, ro_121_0, ro_123_0, ro_125_0, ro_127_0, ro_129_0, ro_131_0, ro_133_0, ro_133_1, ro_133_2, ro_133_3, ro_133_4, ro_133_5, ro_133_6, ro_133_7, ro_133_8, ro_133_9, ro_134_0, ro_136_0, ro_138_0, ro_140_0, ro_142_0, ro_144_0, ro_146_0, ro_148_0, ro_150_0, ro_152_0, ro_154_0, ro_155_0, ro_157_0, ro_157_1, ro_157_2, ro_157_3, ro_157_4, ro_157_5, ro_157_6, ro_157_7, ro_157_8, ro_157_9, ro_158_0, ro_160_0, ro_162_0, ro_164_0, ro_166_0, ro_168_0, ro_170_0, ro_172_0, ro_174_0, ro_176_0, ro_178_0, ro_180_0, ro_182_1, ro_182_4, ro_182_5, ro_182_6, ro_182_9, ro_182_10, ro_182_11, ro_182_13, ro_182_14, ro_182_15, ro_182_16, ro_182_17, ro_182_20, ro_182_21, ro_182_22, ro_182_23, ro_182_24, ro_182_26, ro_182_27, ro_182_28, lo_3, lo_5, lo_7, lo_9, lo_11, lo_13, lo_15, lo_17, lo_19, lo_21, lo_24, lo_26, lo_28, lo_30, lo_32, lo_34, lo_36, lo_38, lo_40, lo_42, lo_44, lo_47, lo_49, lo_51, lo_54, lo_56, lo_58, lo_60, lo_63, lo_65, lo_67, lo_69, lo_72, lo_74, lo_76, lo_78, lo_80, lo_82, lo_84, lo_86, lo_88, lo_90, lo_93, lo_95, lo_97, lo_99, lo_101, lo_103, lo_105, lo_107, lo_109, lo_111, lo_114, lo_116, lo_118, lo_120, lo_122, lo_124, lo_126, lo_128, lo_130, lo_132, lo_135, lo_137, lo_139, lo_141, lo_143, lo_145, lo_147, lo_149, lo_151, lo_153, lo_156, lo_159, lo_161, lo_163, lo_165, lo_167, lo_169, lo_171, lo_173, lo_175, lo_177, lo_179, lo_181, lo_183, lo_184, lo_185, lo_186, lo_187, lo_188, lo_189, lo_190, lo_191, lo_192, lo_193, lo_194, lo_195, lo_196, lo_197, lo_198, lo_199, lo_200, lo_201, lo_202, lo_203, jp_nn, jp_eq, jp_e1, Classical.not_not, ji0, ji1, ji2, cs24_225, kk_225, cs24_228, kk_228, jl_0, jl_1, jl_2, jl_3, jl_4, jl_5, jl_6, jl_7, jl_8, jl_9, jl_10, jl_11, jl_12, jl_13, jl_14, jl_15, jl_16, jl_17, jl_18, jl_19, jl_20, jl_21, jl_22, jl_23, jl_24, jl_25, jl_26, jl_27, jl_28, jl_29, jl_30, jl_31, jl_32, jl_33, jl_34, jl_35, jl_36, jl_37, jl_38, jl_39, jl_40, jl_95, jl_96, jl_97, jl_98, jl_99, jl_100, jl_101, jl_102, jl_103, jl_104, jl_105, jl_106, jl_107, jl_108, jl_109, jl_110, jl_111, jl_112, jl_113, jl_114, jl_186, jl_1100, jr, ju, jpT, jpF, tnc, Nat.reduceEqDiff, reduceIte, and_false, false_and, not_true_eq_false, not_false_eq_true, or_false, gt_iff_lt, ge_iff_le, Int.lt_irrefl, Int.le_refl, yk, yk2, ek, ei, eg, eS3]
          intros
          refine ⟨k + 1, _, rfl, by omega, Fr.tr hf3 (Fr.arr rfl), fun q z => ?_, fun q z => ?_⟩
          · rw [if_neg (by omega)]
            exact ho3 q z
          · by_cases yq : q = 150 + k
            · rw [if_pos (by omega), if_neg (by omega), if_neg (by omega), if_pos (by omega), e8 hf3]
              exact congrArg (h 188) (by omega)
            · rw [if_neg (by omega), hq3 q z]
              by_cases y7 : q < 78
              · rw [if_pos y7, if_pos y7]
              · rw [if_neg y7, if_neg y7]
                by_cases y8 : q < 78 + 12 * m
                · rw [if_pos y8, if_pos y8]
                · rw [if_neg y8, if_neg y8]
                  by_cases y9 : 150 ≤ q ∧ q < 150 + k
                  · rw [if_pos y9, if_pos (by omega)]
                  · rw [if_neg y9, if_neg (by omega)]
        · have yk2 : (S : Int) ≤ (k : Int) := by omega
          have e5_w : k = S := by omega
          subst e5_w
          simp only [qe_1, qe_3, qe_4, qe_5, qe_7, qe_72, qe_10, qe_102, qe_13, qe_14, qe_15, qe_16, qe_17, qe_18, qe_20, qe_22, qe_23, qe_21, qe_24, qe_25, qe_26, qe_27, qe_28, qe_30, qe_31, qe_32, qc_20, qc_22, qc_23, qc_21, qc_24, qc_25, qc_26, qc_27, qc_1, qc_3, qc_4, qc_7, qc_13, qc_28, qc_32, qs_1, qs_2, qs_3, qs_4, qs_5, qs_6, qs_9, qs_10, qs_11, qs_14, qs_15, qs_16, qs_27, qs_17, qs_18, qs_19, qs_20, qs_22, qs_23, qs_28, qs_25, qs_26, qs_7, qs_8, kc_1, kn_1, kc_2, kn_2, kc_3, kn_3, kc_4, kn_4, kc_5, kn_5, kc_6, kn_6, kc_7, kn_7, kc_8, kn_8, kc_9, kn_9, kc_10, kn_10, kc_11, kn_11, kc_12, kn_12, kc_13, kn_13, kc_14, kn_14, kc_15, kn_15, kc_16, kc_17, kc_18, kc_19, kc_20, kc_21, kc_22, kc_23, kc_30, kc_32, kc_40, kc_43, kc_45, kc_48, kc_52, kc_56, kc_57, kc_59, kc_60, kc_61, kc_63, kc_64, kc_72, kc_78, kc_97, kc_99, kc_122, kc_126, kc_128, kc_192, kc_200, kc_255, kc_999, kc_1000, kc_9999, kn_9999, kc_10000, kc_12345, kc_65536, kc_252645135, kc_858993459, kc_1103515245, kc_1431655765, kc_2147483647, kc_0, kc_24, kc_28, kc_37, kc_41, kc_42, kc_73, kc_91, kc_95, kc_96, kc_98, kc_100, kc_112, kc_125, kc_150, kc_162, kc_163, kc_168, kc_186, kc_190, kc_250, kc_355, kc_356, kc_404, kc_405, kc_429, kc_573, kc_1002, kc_1100, kc_1891, kc_2200, kc_4719, kc_4869, kc_4881, kc_5148, kc_19741, kc_25433, kc_320403, kc_628412, kc_629093, kc_660401, kc_679843, kc_918640, kc_979410, kc_1178088, kc_6232410, kc_24644941, kc_36238189, kc_38270444, kc_392531318, kc_425693491, kc_1342154595, kc_2147483648, kc_42328242873, kc_891704255789, kc_1722105685577, kc_1858726030364, ct_0, ct_1, ct_2, ct_3, ct_4, ct_5, cf_0, cf_1, cf_2, cf_3, cf_4, cf_5, w_ty6, w_ty7, m_sv, m_z0, m_hd, m_g0, m_gs, m_s0, m_ss, m_ap, m_an, forall_const, true_and, and_true, ne_eq, not_true_eq_false, not_false_eq_true, false_implies, true_implies, implies_true, eq_self, reduceCtorEq, Nat.reduceDiv, Nat.reduceMod, Int.reduceToNat, or_true, true_or, or_false, false_or, or_self, m_it, m_if, m_c1, m_01, m_02, m_03, m_04, m_10, m_12, m_13, m_14, m_20, m_21, m_23, m_24, m_30, m_31, m_32, m_34, m_40, m_41, m_42, m_43, Int.reduceLE, Int.reduceLT, Int.reduceGE, Int.reduceGT, Int.reduceNeg, Int.reduceAdd, Int.reduceSub, Int.reduceMul, Int.reduceEq, Int.reduceNe, Nat.reduceAdd, jun2, ro_0_0, ro_0_1, ro_0_2, ro_0_3, ro_0_4, ro_0_5, ro_0_6, ro_0_7, ro_0_8, ro_0_9, ro_0_10, ro_0_11, ro_0_12, ro_1_0, ro_1_1, ro_2_0, ro_4_0, ro_6_0, ro_6_1, ro_6_2, ro_6_3, ro_6_4, ro_6_5, ro_6_6, ro_6_7, ro_6_8, ro_8_0, ro_10_0, ro_12_0, ro_14_0, ro_16_0, ro_18_0, ro_20_0, ro_22_0, ro_22_1, ro_22_2, ro_23_0, ro_25_0, ro_27_0, ro_29_0, ro_29_1, ro_29_2, ro_29_3, ro_29_4, ro_29_5, ro_29_6, ro_29_7, ro_29_8, ro_31_0, ro_33_0, ro_35_0, ro_37_0, ro_39_0, ro_41_0, ro_43_0, ro_45_0, ro_45_1, ro_45_2, ro_46_0, ro_48_0, ro_50_0, ro_52_0, ro_52_1, ro_52_2, ro_52_3, ro_53_0, ro_55_0, ro_57_0, ro_59_0, ro_61_0, ro_61_1, ro_61_2, ro_61_3, ro_62_0, ro_64_0, ro_66_0, ro_68_0, ro_70_0, ro_70_1, ro_70_2, ro_70_3, ro_70_4, ro_70_5, ro_70_6, ro_70_7, ro_70_8, ro_70_9, ro_71_0, ro_73_0, ro_75_0, ro_77_0, ro_79_0, ro_81_0, ro_83_0, ro_85_0, ro_87_0, ro_89_0, ro_91_0, ro_91_1, ro_91_2, ro_91_3, ro_91_4, ro_91_5, ro_91_6, ro_91_7, ro_91_8, ro_91_9, ro_92_0, ro_94_0, ro_96_0, ro_98_0, ro_100_0, ro_102_0, ro_104_0, ro_106_0, ro_108_0, ro_110_0, ro_112_0, ro_112_1, ro_112_2, ro_112_3, ro_112_4, ro_112_5, ro_112_6, ro_112_7, ro_112_8, ro_112_9, ro_113_0, ro_115_0, ro_117_0, ro_119_0, ro_121_0, ro_123_0, ro_125_0, ro_127_0, ro_129_0, ro_131_0, ro_133_0, ro_133_1, ro_133_2, ro_133_3, ro_133_4, ro_133_5, ro_133_6, ro_133_7, ro_133_8, ro_133_9, ro_134_0, ro_136_0, ro_138_0, ro_140_0, ro_142_0, ro_144_0, ro_146_0, ro_148_0, ro_150_0, ro_152_0, ro_154_0, ro_155_0, ro_157_0, ro_157_1, ro_157_2, ro_157_3, ro_157_4, ro_157_5, ro_157_6, ro_157_7, ro_157_8, ro_157_9, ro_158_0, ro_160_0, ro_162_0, ro_164_0, ro_166_0, ro_168_0, ro_170_0, ro_172_0, ro_174_0, ro_176_0, ro_178_0, ro_180_0, ro_182_1, ro_182_4, ro_182_5, ro_182_6, ro_182_9, ro_182_10, ro_182_11, ro_182_13, ro_182_14, ro_182_15, ro_182_16, ro_182_17, ro_182_20, ro_182_21, ro_182_22, ro_182_23, ro_182_24, ro_182_26, ro_182_27, ro_182_28, lo_3, lo_5, lo_7, lo_9, lo_11, lo_13, lo_15, lo_17, lo_19, lo_21, lo_24, lo_26, lo_28, lo_30, lo_32, lo_34, lo_36, lo_38, lo_40, lo_42, lo_44, lo_47, lo_49, lo_51, lo_54, lo_56, lo_58, lo_60, lo_63, lo_65, lo_67, lo_69, lo_72, lo_74, lo_76, lo_78, lo_80, lo_82, lo_84, lo_86, lo_88, lo_90, lo_93, lo_95, lo_97, lo_99, lo_101, lo_103, lo_105, lo_107, lo_109, lo_111, lo_114, lo_116, lo_118, lo_120, lo_122, lo_124, lo_126, lo_128, lo_130, lo_132, lo_135, lo_137, lo_139, lo_141, lo_143, lo_145, lo_147, lo_149, lo_151, lo_153, lo_156, lo_159, lo_161, lo_163, lo_165, lo_167, lo_169, lo_171, lo_173, lo_175, lo_177, lo_179, lo_181, lo_183, lo_184, lo_185, lo_186, lo_187, lo_188, lo_189, lo_190, lo_191, lo_192, lo_193, lo_194, lo_195, lo_196, lo_197, lo_198, lo_199, lo_200, lo_201, lo_202, lo_203, jp_nn, jp_eq, jp_e1, Classical.not_not, ji0, ji1, ji2, cs24_225, kk_225, cs24_228, kk_228, jl_0, jl_1, jl_2, jl_3, jl_4, jl_5, jl_6, jl_7, jl_8, jl_9, jl_10, jl_11, jl_12, jl_13, jl_14, jl_15, jl_16, jl_17, jl_18, jl_19, jl_20, jl_21, jl_22, jl_23, jl_24, jl_25, jl_26, jl_27, jl_28, jl_29, jl_30, jl_31, jl_32, jl_33, jl_34, jl_35, jl_36, jl_37, jl_38, jl_39, jl_40, jl_95, jl_96, jl_97, jl_98, jl_99, jl_100, jl_101, jl_102, jl_103, jl_104, jl_105, jl_106, jl_107, jl_108, jl_109, jl_110, jl_111, jl_112, jl_113, jl_114, jl_186, jl_1100, jr, ju, jpT, jpF, tnc, Nat.reduceEqDiff, reduceIte, and_false, false_and, not_true_eq_false, not_false_eq_true, or_false, gt_iff_lt, ge_iff_le, Int.lt_irrefl, Int.le_refl, yk, yk2, eS3]
          exact hQ h3 hf3 ho3 hq3
  · exact hQ.elim
theorem m_241s : BodyOK CS24 CS24 241 := fun av h Q hQ => by
  rw [cs24_241] at hQ
  unfold k241s at hQ
  split at hQ
  · rename_i t
    obtain ⟨rfl, M, S, eM_w, hM_w, eS, hS_w, hQ⟩ := hQ
    show pS CS24 bb_241 [182] h _
    unfold bb_241
    have e404 : j32 404 = 404 := rfl
    simp only [qe_1, qe_3, qe_4, qe_5, qe_7, qe_72, qe_10, qe_102, qe_13, qe_14, qe_15, qe_16, qe_17, qe_18, qe_20, qe_22, qe_23, qe_21, qe_24, qe_25, qe_26, qe_27, qe_28, qe_30, qe_31, qe_32, qc_20, qc_22, qc_23, qc_21, qc_24, qc_25, qc_26, qc_27, qc_1, qc_3, qc_4, qc_7, qc_13, qc_28, qc_32, qs_1, qs_2, qs_3, qs_4, qs_5, qs_6, qs_9, qs_10, qs_11, qs_14, qs_15, qs_16, qs_27, qs_17, qs_18, qs_19, qs_20, qs_22, qs_23, qs_28, qs_25, qs_26, qs_7, qs_8, kc_1, kn_1, kc_2, kn_2, kc_3, kn_3, kc_4, kn_4, kc_5, kn_5, kc_6, kn_6, kc_7, kn_7, kc_8, kn_8, kc_9, kn_9, kc_10, kn_10, kc_11, kn_11, kc_12, kn_12, kc_13, kn_13, kc_14, kn_14, kc_15, kn_15, kc_16, kc_17, kc_18, kc_19, kc_20, kc_21, kc_22, kc_23, kc_30, kc_32, kc_40, kc_43, kc_45, kc_48, kc_52, kc_56, kc_57, kc_59, kc_60, kc_61, kc_63, kc_64, kc_72, kc_78, kc_97, kc_99, kc_122, kc_126, kc_128, kc_192, kc_200, kc_255, kc_999, kc_1000, kc_9999, kn_9999, kc_10000, kc_12345, kc_65536, kc_252645135, kc_858993459, kc_1103515245, kc_1431655765, kc_2147483647, kc_0, kc_24, kc_28, kc_37, kc_41, kc_42, kc_73, kc_91, kc_95, kc_96, kc_98, kc_100, kc_112, kc_125, kc_150, kc_162, kc_163, kc_168, kc_186, kc_190, kc_250, kc_355, kc_356, kc_404, kc_405, kc_429, kc_573, kc_1002, kc_1100, kc_1891, kc_2200, kc_4719, kc_4869, kc_4881, kc_5148, kc_19741, kc_25433, kc_320403, kc_628412, kc_629093, kc_660401, kc_679843, kc_918640, kc_979410, kc_1178088, kc_6232410, kc_24644941, kc_36238189, kc_38270444, kc_392531318, kc_425693491, kc_1342154595, kc_2147483648, kc_42328242873, kc_891704255789, kc_1722105685577, kc_1858726030364, ct_0, ct_1, ct_2, ct_3, ct_4, ct_5, cf_0, cf_1, cf_2, cf_3, cf_4, cf_5, w_ty6, w_ty7, m_sv, m_z0, m_hd, m_g0, m_gs, m_s0, m_ss, m_ap, m_an, forall_const, true_and, and_true, ne_eq, not_true_eq_false, not_false_eq_true, false_implies, true_implies, implies_true, eq_self, reduceCtorEq, Nat.reduceDiv, Nat.reduceMod, Int.reduceToNat, or_true, true_or, or_false, false_or, or_self, m_it, m_if, m_c1, m_01, m_02, m_03, m_04, m_10, m_12, m_13, m_14, m_20, m_21, m_23, m_24, m_30, m_31, m_32, m_34, m_40, m_41, m_42, m_43, Int.reduceLE, Int.reduceLT, Int.reduceGE, Int.reduceGT, Int.reduceNeg, Int.reduceAdd, Int.reduceSub, Int.reduceMul, Int.reduceEq, Int.reduceNe, Nat.reduceAdd, jun2, ro_0_0, ro_0_1, ro_0_2, ro_0_3, ro_0_4, ro_0_5, ro_0_6, ro_0_7, ro_0_8, ro_0_9, ro_0_10, ro_0_11, ro_0_12, ro_1_0, ro_1_1, ro_2_0, ro_4_0, ro_6_0, ro_6_1, ro_6_2, ro_6_3, ro_6_4, ro_6_5, ro_6_6, ro_6_7, ro_6_8, ro_8_0, ro_10_0, ro_12_0, ro_14_0, ro_16_0, ro_18_0, ro_20_0, ro_22_0, ro_22_1, ro_22_2, ro_23_0, ro_25_0, ro_27_0, ro_29_0, ro_29_1, ro_29_2, ro_29_3, ro_29_4, ro_29_5, ro_29_6, ro_29_7, ro_29_8, ro_31_0, ro_33_0, ro_35_0, ro_37_0, ro_39_0, ro_41_0, ro_43_0, ro_45_0, ro_45_1, ro_45_2, ro_46_0, ro_48_0, ro_50_0, ro_52_0, ro_52_1, ro_52_2, ro_52_3, ro_53_0, ro_55_0, ro_57_0, ro_59_0, ro_61_0, ro_61_1, ro_61_2, ro_61_3, ro_62_0, ro_64_0, ro_66_0, ro_68_0, ro_70_0, ro_70_1, ro_70_2, ro_70_3, ro_70_4, ro_70_5, ro_70_6, ro_70_7, ro_70_8, ro_70_9, ro_71_0, ro_73_0, ro_75_0, ro_77_0, ro_79_0, ro_81_0, ro_83_0, ro_85_0, ro_87_0, ro_89_0, ro_91_0, ro_91_1, ro_91_2, ro_91_3, ro_91_4, ro_91_5, ro_91_6, ro_91_7, ro_91_8, ro_91_9, ro_92_0, ro_94_0, ro_96_0, ro_98_0, ro_100_0, ro_102_0, ro_104_0, ro_106_0, ro_108_0, ro_110_0, ro_112_0, ro_112_1, ro_112_2, ro_112_3, ro_112_4, ro_112_5, ro_112_6, ro_112_7, ro_112_8, ro_112_9, ro_113_0, ro_115_0, ro_117_0, ro_119_0, ro_121_0, ro_123_0, ro_125_0, ro_127_0, ro_129_0, ro_131_0, ro_133_0, ro_133_1, ro_133_2, ro_133_3, ro_133_4, ro_133_5, ro_133_6, ro_133_7, ro_133_8, ro_133_9, ro_134_0, ro_136_0, ro_138_0, ro_140_0, ro_142_0, ro_144_0, ro_146_0, ro_148_0, ro_150_0, ro_152_0, ro_154_0, ro_155_0, ro_157_0, ro_157_1, ro_157_2, ro_157_3, ro_157_4, ro_157_5, ro_157_6, ro_157_7, ro_157_8, ro_157_9, ro_158_0, ro_160_0, ro_162_0, ro_164_0, ro_166_0, ro_168_0, ro_170_0, ro_172_0, ro_174_0, ro_176_0, ro_178_0, ro_180_0, ro_182_1, ro_182_4, ro_182_5, ro_182_6, ro_182_9, ro_182_10, ro_182_11, ro_182_13, ro_182_14, ro_182_15, ro_182_16, ro_182_17, ro_182_20, ro_182_21, ro_182_22, ro_182_23, ro_182_24, ro_182_26, ro_182_27, ro_182_28, lo_3, lo_5, lo_7, lo_9, lo_11, lo_13, lo_15, lo_17, lo_19, lo_21, lo_24, lo_26, lo_28, lo_30, lo_32, lo_34, lo_36, lo_38, lo_40, lo_42, lo_44, lo_47, lo_49, lo_51, lo_54, lo_56, lo_58, lo_60, lo_63, lo_65, lo_67, lo_69, lo_72, lo_74, lo_76, lo_78, lo_80, lo_82, lo_84, lo_86, lo_88, lo_90, lo_93, lo_95, lo_97, lo_99, lo_101, lo_103, lo_105, lo_107, lo_109, lo_111, lo_114, lo_116, lo_118, lo_120, lo_122, lo_124, lo_126, lo_128, lo_130, lo_132, lo_135, lo_137, lo_139, lo_141, lo_143, lo_145, lo_147, lo_149, lo_151, lo_153, lo_156, lo_159, lo_161, lo_163, lo_165, lo_167, lo_169, lo_171, lo_173, lo_175, lo_177, lo_179, lo_181, lo_183, lo_184, lo_185, lo_186, lo_187, lo_188, lo_189, lo_190, lo_191, lo_192, lo_193, lo_194, lo_195, lo_196, lo_197, lo_198, lo_199, lo_200, lo_201, lo_202, lo_203, jp_nn, jp_eq, jp_e1, Classical.not_not, ji0, ji1, ji2, cs24_240, kk_240s, jl_0, jl_1, jl_2, jl_3, jl_4, jl_5, jl_6, jl_7, jl_8, jl_9, jl_10, jl_11, jl_12, jl_13, jl_14, jl_15, jl_16, jl_17, jl_18, jl_19, jl_20, jl_21, jl_22, jl_23, jl_24, jl_25, jl_26, jl_27, jl_28, jl_29, jl_30, jl_31, jl_32, jl_33, jl_34, jl_35, jl_36, jl_37, jl_38, jl_39, jl_40, jl_95, jl_96, jl_97, jl_98, jl_99, jl_100, jl_101, jl_102, jl_103, jl_104, jl_105, jl_106, jl_107, jl_108, jl_109, jl_110, jl_111, jl_112, jl_113, jl_114, jl_186, jl_1100, jr, ju, jpT, jpF, tnc, Nat.reduceEqDiff, reduceIte, and_false, false_and, not_true_eq_false, not_false_eq_true, or_false, gt_iff_lt, ge_iff_le, Int.lt_irrefl, Int.le_refl, e404]
    refine ⟨0, M, S, rfl, by decide, eM_w, hM_w, eS, hS_w, fun h1 f1_w o1 s1_w => ?_⟩
    intros
    refine hQ _ (fun o k z1 z2 => ?_) ⟨fun q z => ?_, ?_, ?_, ?_, ?_, ?_, ?_⟩
    · have z3 : o ≠ 194 ∧ o ≠ 191 ∧ o ≠ 195 := by
        refine ⟨fun e => ?_, fun e => ?_, fun e => ?_⟩ <;> (rw [e] at z2; exact absurd z2 (by decide))
      have z4 : o = 182 → k ≠ 18 ∧ k ≠ 19 := fun e => by
        have := z1 e
        refine ⟨fun e2_w => ?_, fun e2_w => ?_⟩ <;> (rw [e2_w] at this; exact absurd this (by decide))
      rw [up_ne (by omega), up_ne (by omega), up_ne (by omega), up_ne (by omega), up_ne (by omega), up_ne (by omega)]
      exact f1_w o k (fun _ => rfl) (by
        show [194].contains o = false
        rw [List.contains_eq_mem, decide_eq_false_iff_not]
        simp only [List.mem_singleton]
        exact z3.1)
    · rw [up_ne (by omega), up_ne (by omega), up_ne (by omega), up_ne (by omega), up_ne (by omega), up_ne (by omega)]
      refine (s1_w q z).trans ?_
      have e8 : h1 188 = h 188 := f1_w.row rfl (by decide)
      have e9_w : ∀ k, j_up (j_up (j_up (j_up (j_up (j_up h1 194 404 0) 191 0 0) 182 18 0) 182 19 0) 195 0 (w_ty 9 0)) 195 1 (w_ty 9 0) 188 k = h 188 k := fun k => by
        rw [up_ne (by omega), up_ne (by omega), up_ne (by omega), up_ne (by omega), up_ne (by omega), up_ne (by omega), e8]
      rw [e9_w, e9_w]
    all_goals rfl
  · exact hQ.elim
theorem m_206s : BodyOK CS24 CS24 206 := fun av h Q hQ => by
  rw [cs24_206] at hQ
  unfold k206s at hQ
  split at hQ
  · rename_i t
    obtain ⟨rfl, n, hn, n1_w, hQ⟩ := hQ
    show pS CS24 bb_206 [182, 0] h _
    unfold bb_206
    simp only [qe_1, qe_3, qe_4, qe_5, qe_7, qe_72, qe_10, qe_102, qe_13, qe_14, qe_15, qe_16, qe_17, qe_18, qe_20, qe_22, qe_23, qe_21, qe_24, qe_25, qe_26, qe_27, qe_28, qe_30, qe_31, qe_32, qc_20, qc_22, qc_23, qc_21, qc_24, qc_25, qc_26, qc_27, qc_1, qc_3, qc_4, qc_7, qc_13, qc_28, qc_32, qs_1, qs_2, qs_3, qs_4, qs_5, qs_6, qs_9, qs_10, qs_11, qs_14, qs_15, qs_16, qs_27, qs_17, qs_18, qs_19, qs_20, qs_22, qs_23, qs_28, qs_25, qs_26, qs_7, qs_8, kc_1, kn_1, kc_2, kn_2, kc_3, kn_3, kc_4, kn_4, kc_5, kn_5, kc_6, kn_6, kc_7, kn_7, kc_8, kn_8, kc_9, kn_9, kc_10, kn_10, kc_11, kn_11, kc_12, kn_12, kc_13, kn_13, kc_14, kn_14, kc_15, kn_15, kc_16, kc_17, kc_18, kc_19, kc_20, kc_21, kc_22, kc_23, kc_30, kc_32, kc_40, kc_43, kc_45, kc_48, kc_52, kc_56, kc_57, kc_59, kc_60, kc_61, kc_63, kc_64, kc_72, kc_78, kc_97, kc_99, kc_122, kc_126, kc_128, kc_192, kc_200, kc_255, kc_999, kc_1000, kc_9999, kn_9999, kc_10000, kc_12345, kc_65536, kc_252645135, kc_858993459, kc_1103515245, kc_1431655765, kc_2147483647, kc_0, kc_24, kc_28, kc_37, kc_41, kc_42, kc_73, kc_91, kc_95, kc_96, kc_98, kc_100, kc_112, kc_125, kc_150, kc_162, kc_163, kc_168, kc_186, kc_190, kc_250, kc_355, kc_356, kc_404, kc_405, kc_429, kc_573, kc_1002, kc_1100, kc_1891, kc_2200, kc_4719, kc_4869, kc_4881, kc_5148, kc_19741, kc_25433, kc_320403, kc_628412, kc_629093, kc_660401, kc_679843, kc_918640, kc_979410, kc_1178088, kc_6232410, kc_24644941, kc_36238189, kc_38270444, kc_392531318, kc_425693491, kc_1342154595, kc_2147483648, kc_42328242873, kc_891704255789, kc_1722105685577, kc_1858726030364, ct_0, ct_1, ct_2, ct_3, ct_4, ct_5, cf_0, cf_1, cf_2, cf_3, cf_4, cf_5, w_ty6, w_ty7, m_sv, m_z0, m_hd, m_g0, m_gs, m_s0, m_ss, m_ap, m_an, forall_const, true_and, and_true, ne_eq, not_true_eq_false, not_false_eq_true, false_implies, true_implies, implies_true, eq_self, reduceCtorEq, Nat.reduceDiv, Nat.reduceMod, Int.reduceToNat, or_true, true_or, or_false, false_or, or_self, m_it, m_if, m_c1, m_01, m_02, m_03, m_04, m_10, m_12, m_13, m_14, m_20, m_21, m_23, m_24, m_30, m_31, m_32, m_34, m_40, m_41, m_42, m_43, Int.reduceLE, Int.reduceLT, Int.reduceGE, Int.reduceGT, Int.reduceNeg, Int.reduceAdd, Int.reduceSub, Int.reduceMul, Int.reduceEq, Int.reduceNe, Nat.reduceAdd, jun2, ro_0_0, ro_0_1, ro_0_2, ro_0_3, ro_0_4, ro_0_5, ro_0_6, ro_0_7, ro_0_8, ro_0_9, ro_0_10, ro_0_11, ro_0_12, ro_1_0, ro_1_1, ro_2_0, ro_4_0, ro_6_0, ro_6_1, ro_6_2, ro_6_3, ro_6_4, ro_6_5, ro_6_6, ro_6_7, ro_6_8, ro_8_0, ro_10_0, ro_12_0, ro_14_0, ro_16_0, ro_18_0, ro_20_0, ro_22_0, ro_22_1, ro_22_2, ro_23_0, ro_25_0, ro_27_0, ro_29_0, ro_29_1, ro_29_2, ro_29_3, ro_29_4, ro_29_5, ro_29_6, ro_29_7, ro_29_8, ro_31_0, ro_33_0, ro_35_0, ro_37_0, ro_39_0, ro_41_0, ro_43_0, ro_45_0, ro_45_1, ro_45_2, ro_46_0, ro_48_0, ro_50_0, ro_52_0, ro_52_1, ro_52_2, ro_52_3, ro_53_0, ro_55_0, ro_57_0, ro_59_0, ro_61_0, ro_61_1, ro_61_2, ro_61_3, ro_62_0, ro_64_0, ro_66_0, ro_68_0, ro_70_0, ro_70_1, ro_70_2, ro_70_3, ro_70_4, ro_70_5, ro_70_6, ro_70_7, ro_70_8, ro_70_9, ro_71_0, ro_73_0, ro_75_0, ro_77_0, ro_79_0, ro_81_0, ro_83_0, ro_85_0, ro_87_0, ro_89_0, ro_91_0, ro_91_1, ro_91_2, ro_91_3, ro_91_4, ro_91_5, ro_91_6, ro_91_7, ro_91_8, ro_91_9, ro_92_0, ro_94_0, ro_96_0, ro_98_0, ro_100_0, ro_102_0, ro_104_0, ro_106_0, ro_108_0, ro_110_0, ro_112_0, ro_112_1, ro_112_2, ro_112_3, ro_112_4, ro_112_5, ro_112_6, ro_112_7, ro_112_8, ro_112_9, ro_113_0, ro_115_0, ro_117_0, ro_119_0, ro_121_0, ro_123_0, ro_125_0, ro_127_0, ro_129_0, ro_131_0, ro_133_0, ro_133_1, ro_133_2, ro_133_3, ro_133_4, ro_133_5, ro_133_6, ro_133_7, ro_133_8, ro_133_9, ro_134_0, ro_136_0, ro_138_0, ro_140_0, ro_142_0, ro_144_0, ro_146_0, ro_148_0, ro_150_0, ro_152_0, ro_154_0, ro_155_0, ro_157_0, ro_157_1, ro_157_2, ro_157_3, ro_157_4, ro_157_5, ro_157_6, ro_157_7, ro_157_8, ro_157_9, ro_158_0, ro_160_0, ro_162_0, ro_164_0, ro_166_0, ro_168_0, ro_170_0, ro_172_0, ro_174_0, ro_176_0, ro_178_0, ro_180_0, ro_182_1, ro_182_4, ro_182_5, ro_182_6, ro_182_9, ro_182_10, ro_182_11, ro_182_13, ro_182_14, ro_182_15, ro_182_16, ro_182_17, ro_182_20, ro_182_21, ro_182_22, ro_182_23, ro_182_24, ro_182_26, ro_182_27, ro_182_28, lo_3, lo_5, lo_7, lo_9, lo_11, lo_13, lo_15, lo_17, lo_19, lo_21, lo_24, lo_26, lo_28, lo_30, lo_32, lo_34, lo_36, lo_38, lo_40, lo_42, lo_44, lo_47, lo_49, lo_51, lo_54, lo_56, lo_58, lo_60, lo_63, lo_65, lo_67, lo_69, lo_72, lo_74, lo_76, lo_78, lo_80, lo_82, lo_84, lo_86, lo_88, lo_90, lo_93, lo_95, lo_97, lo_99, lo_101, lo_103, lo_105, lo_107, lo_109, lo_111, lo_114, lo_116, lo_118, lo_120, lo_122, lo_124, lo_126, lo_128, lo_130, lo_132, lo_135, lo_137, lo_139, lo_141, lo_143, lo_145, lo_147, lo_149, lo_151, lo_153, lo_156, lo_159, lo_161, lo_163, lo_165, lo_167, lo_169, lo_171, lo_173, lo_175, lo_177, lo_179, lo_181, lo_183, lo_184, lo_185, lo_186, lo_187, lo_188, lo_189, lo_190, lo_191, lo_192, lo_193, lo_194, lo_195, lo_196, lo_197, lo_198, lo_199, lo_200, lo_201, lo_202, lo_203, jp_nn, jp_eq, jp_e1, Classical.not_not, ji0, ji1, ji2, cs24_194, kk_194, cs24_210, kk_210, cs24_190, kk_190, cs24_199, kk_199, cs24_241, kk_241s, jl_0, jl_1, jl_2, jl_3, jl_4, jl_5, jl_6, jl_7, jl_8, jl_9, jl_10, jl_11, jl_12, jl_13, jl_14, jl_15, jl_16, jl_17, jl_18, jl_19, jl_20, jl_21, jl_22, jl_23, jl_24, jl_25, jl_26, jl_27, jl_28, jl_29, jl_30, jl_31, jl_32, jl_33, jl_34, jl_35, jl_36, jl_37, jl_38, jl_39, jl_40, jl_95, jl_96, jl_97, jl_98, jl_99, jl_100, jl_101, jl_102, jl_103, jl_104, jl_105, jl_106, jl_107, jl_108, jl_109, jl_110, jl_111, jl_112, jl_113, jl_114, jl_186, jl_1100, jr, ju, jpT, jpF, tnc, Nat.reduceEqDiff, reduceIte, and_false, false_and, not_true_eq_false, not_false_eq_true, or_false, gt_iff_lt, ge_iff_le, Int.lt_irrefl, Int.le_refl]
    refine ⟨n, hn, n1_w, fun h1 N f1_w t1_w tk st tok => ?_⟩
    refine fun h2 f2_w q2_w => ?_
    have F2 : Fr ([0, 2, 3, 7, 8, 12], [184, 185, 186, 188]) h h2 := Fr.tr (Fr.tr (Fr.tr (Fr.fld rfl) (Fr.sub (by decide) f1_w)) (Fr.fld rfl)) (Fr.sub (by decide) f2_w)
    have r7 : h2 187 = h 187 := F2.row rfl (by decide)
    have f12_w : Fr ([12], [188]) h1 h2 := Fr.tr (Fr.fld rfl) (Fr.sub (by decide) f2_w)
    have r4 : h2 184 = h1 184 := f12_w.row rfl (by decide)
    have r5_w : h2 185 = h1 185 := f12_w.row rfl (by decide)
    have r6 : h2 186 = h1 186 := f12_w.row rfl (by decide)
    have tk2 : TK N h2 := tk.fr f12_w rfl rfl rfl
    have st2_w : St N (.ok 0) h2 := ⟨(f12_w 182 8 (fun _ => rfl) rfl).trans st.1, (f12_w 182 7 (fun _ => rfl) rfl).trans st.2.1, st.2.2⟩
    have c2 : h2 182 12 = 0 := (f2_w 182 12 (fun _ => rfl) rfl).trans up_eq
    have q2' : ∀ q : Nat, 95 ≤ q → q < 190 → q ≠ 99 → h2 188 q = 0 := fun q z1 z2 z3 => by
      rw [q2_w q, if_pos (by omega), if_neg (by omega)]
    have q99 : h2 188 99 = -1 := by
      rw [q2_w 99, if_pos (by omega), if_pos (by omega)]
    have rd2 : RD DD0 h2 := by
      refine ⟨⟨⟨q2' 96 (by decide) (by decide) (by decide), q2' 97 (by decide) (by decide) (by decide), q2' 98 (by decide) (by decide) (by decide), by decide, by decide, by decide⟩, fun k v z => (by cases z), fun k v z => (by cases z), fun k v z => (by cases z)⟩, ⟨q2' 95 (by decide) (by decide) (by decide), by decide, by decide⟩, q2' 186 (by decide) (by decide) (by decide), fun s hs => ?_, fun c x z => (by cases z), fun m x z => (by cases z), q99, c2⟩
      exact q2' _ (by omega) (by omega) (by omega)
    have kf2 : KFx h h2 := by
      refine ⟨⟨fun q z => ?_, fun q z => ?_, fun q z => ?_⟩, F2.row rfl (by decide), F2.row rfl (by decide), F2.row rfl (by decide), F2 182 18 (fun _ => rfl) rfl, F2 182 19 (fun _ => rfl) rfl⟩
      · have e1_w : h1 188 = h 188 := (Fr.tr (Fr.fld (k := 0) rfl) (Fr.sub (by decide) f1_w) : Fr ([0, 2, 3, 7, 8], [184, 185, 186]) h h1).row rfl (by decide)
        rw [q2_w q, if_neg (by omega), ← e1_w]
      · rw [show h2 189 = h 189 from F2.row rfl (by decide)]
      · rw [show h2 190 = h 190 from F2.row rfl (by decide)]
    refine qp_lp (fun en h' => I206 h1 h N en h' ∧ KFx h h') ⟨⟨rfl, tk2, r4, r5_w, r6, r7, Or.inl ⟨DD0, 0, 1001, rfl, by omega, st2_w, rd2⟩⟩, kf2⟩ ?_
    intro en h' ⟨⟨e1_w, tk', p4_w, p5_w, p6_w, p7_w, hI⟩, kx⟩
    subst e1_w
    rcases hI with ⟨D, i, k, hs, hk, st', rd'⟩ | ⟨f, hs, st'⟩
    · obtain ⟨e8, e7_w, hi_w⟩ := id st'
      have sz := rd'.sz
      obtain ⟨k, rfl⟩ : ∃ q, k = q + 1 := ⟨k - 1, by omega⟩
      by_cases y : h1 184 i = 0
      · have hs' : sGrid (h1 184) (h1 185) (h1 186) (h 187) (k + 1) D i = .ok D := by
          rw [sGrid, if_pos y]
        rw [hs'] at hs
        have cL : 0 ≤ h' 182 12 ∧ h' 182 12 ≤ 1100 := rd'.cd
        simp only [qe_1, qe_3, qe_4, qe_5, qe_7, qe_72, qe_10, qe_102, qe_13, qe_14, qe_15, qe_16, qe_17, qe_18, qe_20, qe_22, qe_23, qe_21, qe_24, qe_25, qe_26, qe_27, qe_28, qe_30, qe_31, qe_32, qc_20, qc_22, qc_23, qc_21, qc_24, qc_25, qc_26, qc_27, qc_1, qc_3, qc_4, qc_7, qc_13, qc_28, qc_32, qs_1, qs_2, qs_3, qs_4, qs_5, qs_6, qs_9, qs_10, qs_11, qs_14, qs_15, qs_16, qs_27, qs_17, qs_18, qs_19, qs_20, qs_22, qs_23, qs_28, qs_25, qs_26, qs_7, qs_8, kc_1, kn_1, kc_2, kn_2, kc_3, kn_3, kc_4, kn_4, kc_5, kn_5, kc_6, kn_6, kc_7, kn_7, kc_8, kn_8, kc_9, kn_9, kc_10, kn_10, kc_11, kn_11, kc_12, kn_12, kc_13, kn_13, kc_14, kn_14, kc_15, kn_15, kc_16, kc_17, kc_18, kc_19, kc_20, kc_21, kc_22, kc_23, kc_30, kc_32, kc_40, kc_43, kc_45, kc_48, kc_52, kc_56, kc_57, kc_59, kc_60, kc_61, kc_63, kc_64, kc_72, kc_78, kc_97, kc_99, kc_122, kc_126, kc_128, kc_192, kc_200, kc_255, kc_999, kc_1000, kc_9999, kn_9999, kc_10000, kc_12345, kc_65536, kc_252645135, kc_858993459, kc_1103515245, kc_1431655765, kc_2147483647, kc_0, kc_24, kc_28, kc_37, kc_41, kc_42, kc_73, kc_91, kc_95, kc_96, kc_98, kc_100, kc_112, kc_125, kc_150, kc_162, kc_163, kc_168, kc_186, kc_190, kc_250, kc_355, kc_356, kc_404, kc_405, kc_429, kc_573, kc_1002, kc_1100, kc_1891, kc_2200, kc_4719, kc_4869, kc_4881, kc_5148, kc_19741, kc_25433, kc_320403, kc_628412, kc_629093, kc_660401, kc_679843, kc_918640, kc_979410, kc_1178088, kc_6232410, kc_24644941, kc_36238189, kc_38270444, kc_392531318, kc_425693491, kc_1342154595, kc_2147483648, kc_42328242873, kc_891704255789, kc_1722105685577, kc_1858726030364, ct_0, ct_1, ct_2, ct_3, ct_4, ct_5, cf_0, cf_1, cf_2, cf_3, cf_4, cf_5, w_ty6, w_ty7, m_sv, m_z0, m_hd, m_g0, m_gs, m_s0, m_ss, m_ap, m_an, forall_const, true_and, and_true, ne_eq, not_true_eq_false, not_false_eq_true, false_implies, true_implies, implies_true, eq_self, reduceCtorEq, Nat.reduceDiv, Nat.reduceMod, Int.reduceToNat, or_true, true_or, or_false, false_or, or_self, m_it, m_if, m_c1, m_01, m_02, m_03, m_04, m_10, m_12, m_13, m_14, m_20, m_21, m_23, m_24, m_30, m_31, m_32, m_34, m_40, m_41, m_42, m_43, Int.reduceLE, Int.reduceLT, Int.reduceGE, Int.reduceGT, Int.reduceNeg, Int.reduceAdd, Int.reduceSub, Int.reduceMul, Int.reduceEq, Int.reduceNe, Nat.reduceAdd, jun2, ro_0_0, ro_0_1, ro_0_2, ro_0_3, ro_0_4, ro_0_5, ro_0_6, ro_0_7, ro_0_8, ro_0_9, ro_0_10, ro_0_11, ro_0_12, ro_1_0, ro_1_1, ro_2_0, ro_4_0, ro_6_0, ro_6_1, ro_6_2, ro_6_3, ro_6_4, ro_6_5, ro_6_6, ro_6_7, ro_6_8, ro_8_0, ro_10_0, ro_12_0, ro_14_0, ro_16_0, ro_18_0, ro_20_0, ro_22_0, ro_22_1, ro_22_2, ro_23_0, ro_25_0, ro_27_0, ro_29_0, ro_29_1, ro_29_2, ro_29_3, ro_29_4, ro_29_5, ro_29_6, ro_29_7, ro_29_8, ro_31_0, ro_33_0, ro_35_0, ro_37_0, ro_39_0, ro_41_0, ro_43_0, ro_45_0, ro_45_1, ro_45_2, ro_46_0, ro_48_0, ro_50_0, ro_52_0, ro_52_1, ro_52_2, ro_52_3, ro_53_0, ro_55_0, ro_57_0, ro_59_0, ro_61_0, ro_61_1, ro_61_2, ro_61_3, ro_62_0, ro_64_0, ro_66_0, ro_68_0, ro_70_0, ro_70_1, ro_70_2, ro_70_3, ro_70_4, ro_70_5, ro_70_6, ro_70_7, ro_70_8, ro_70_9, ro_71_0, ro_73_0, ro_75_0, ro_77_0, ro_79_0, ro_81_0, ro_83_0, ro_85_0, ro_87_0, ro_89_0, ro_91_0, ro_91_1, ro_91_2, ro_91_3, ro_91_4, ro_91_5, ro_91_6, ro_91_7, ro_91_8, ro_91_9, ro_92_0, ro_94_0, ro_96_0, ro_98_0, ro_100_0, ro_102_0, ro_104_0, ro_106_0, ro_108_0, ro_110_0, ro_112_0, ro_112_1, ro_112_2, ro_112_3, ro_112_4, ro_112_5, ro_112_6, ro_112_7, ro_112_8, ro_112_9, ro_113_0, ro_115_0, ro_117_0, ro_119_0, ro_121_0, ro_123_0, ro_125_0, ro_127_0, ro_129_0, ro_131_0, ro_133_0, ro_133_1, ro_133_2, ro_133_3, ro_133_4, ro_133_5, ro_133_6, ro_133_7, ro_133_8, ro_133_9, ro_134_0, ro_136_0, ro_138_0, ro_140_0, ro_142_0, ro_144_0, ro_146_0, ro_148_0, ro_150_0, ro_152_0, ro_154_0, ro_155_0, ro_157_0, ro_157_1, ro_157_2, ro_157_3, ro_157_4, ro_157_5, ro_157_6, ro_157_7, ro_157_8, ro_157_9, ro_158_0, ro_160_0, ro_162_0, ro_164_0, ro_166_0, ro_168_0, ro_170_0, ro_172_0, ro_174_0, ro_176_0, ro_178_0, ro_180_0, ro_182_1, ro_182_4, ro_182_5, ro_182_6, ro_182_9, ro_182_10, ro_182_11, ro_182_13, ro_182_14, ro_182_15, ro_182_16, ro_182_17, ro_182_20, ro_182_21, ro_182_22, ro_182_23, ro_182_24, ro_182_26, ro_182_27, ro_182_28, lo_3, lo_5, lo_7, lo_9, lo_11, lo_13, lo_15, lo_17, lo_19, lo_21, lo_24, lo_26, lo_28, lo_30, lo_32, lo_34, lo_36, lo_38, lo_40, lo_42, lo_44, lo_47, lo_49, lo_51, lo_54, lo_56, lo_58, lo_60, lo_63, lo_65, lo_67, lo_69, lo_72, lo_74, lo_76, lo_78, lo_80, lo_82, lo_84, lo_86, lo_88, lo_90, lo_93, lo_95, lo_97, lo_99, lo_101, lo_103, lo_105, lo_107, lo_109, lo_111, lo_114, lo_116, lo_118, lo_120, lo_122, lo_124, lo_126, lo_128, lo_130, lo_132, lo_135, lo_137, lo_139, lo_141, lo_143, lo_145, lo_147, lo_149, lo_151, lo_153, lo_156, lo_159, lo_161, lo_163, lo_165, lo_167, lo_169, lo_171, lo_173, lo_175, lo_177, lo_179, lo_181, lo_183, lo_184, lo_185, lo_186, lo_187, lo_188, lo_189, lo_190, lo_191, lo_192, lo_193, lo_194, lo_195, lo_196, lo_197, lo_198, lo_199, lo_200, lo_201, lo_202, lo_203, jp_nn, jp_eq, jp_e1, Classical.not_not, ji0, ji1, ji2, cs24_194, kk_194, cs24_210, kk_210, cs24_190, kk_190, cs24_199, kk_199, cs24_241, kk_241s, jl_0, jl_1, jl_2, jl_3, jl_4, jl_5, jl_6, jl_7, jl_8, jl_9, jl_10, jl_11, jl_12, jl_13, jl_14, jl_15, jl_16, jl_17, jl_18, jl_19, jl_20, jl_21, jl_22, jl_23, jl_24, jl_25, jl_26, jl_27, jl_28, jl_29, jl_30, jl_31, jl_32, jl_33, jl_34, jl_35, jl_36, jl_37, jl_38, jl_39, jl_40, jl_95, jl_96, jl_97, jl_98, jl_99, jl_100, jl_101, jl_102, jl_103, jl_104, jl_105, jl_106, jl_107, jl_108, jl_109, jl_110, jl_111, jl_112, jl_113, jl_114, jl_186, jl_1100, jr, ju, jpT, jpF, tnc, Nat.reduceEqDiff, reduceIte, and_false, false_and, not_true_eq_false, not_false_eq_true, or_false, gt_iff_lt, ge_iff_le, Int.lt_irrefl, Int.le_refl, e8, e7_w, p4_w, y]
        intro _
        refine qp_lp (fun en h3 => ∃ k : Nat, en = [182, (k : Int)] ∧ k ≤ 95 ∧ Fr ([], [188]) h' h3 ∧ (∀ q : Nat, q < k → h3 188 q = h' 188 (95 + q)) ∧ ∀ q : Nat, 95 ≤ q → h3 188 q = h' 188 q) ⟨0, rfl, by omega, Fr.rf, fun q z => by omega, fun _ _ => rfl⟩ ?_
        intro en h3 ⟨k1_w, e, k95, g3_w, c3, d3_w⟩
        subst e
        by_cases y1 : (k1_w : Int) < 95
        · have y1' : ¬ (95 : Int) ≤ (k1_w : Int) := by omega
          have ek := jk1 (k := k1_w) (by omega)
          have ei : j32 (95 + (k1_w : Int)) = ((95 + k1_w : Nat) : Int) := jcn (by omega) (by omega)
          simp only [qe_1, qe_3, qe_4, qe_5, qe_7, qe_72, qe_10, qe_102, qe_13, qe_14, qe_15, qe_16, qe_17, qe_18, qe_20, qe_22, qe_23, qe_21, qe_24, qe_25, qe_26, qe_27, qe_28, qe_30, qe_31, qe_32, qc_20, qc_22, qc_23, qc_21, qc_24, qc_25, qc_26, qc_27, qc_1, qc_3, qc_4, qc_7, qc_13, qc_28, qc_32, qs_1, qs_2, qs_3, qs_4, qs_5, qs_6, qs_9, qs_10, qs_11, qs_14, qs_15, qs_16, qs_27, qs_17, qs_18, qs_19, qs_20, qs_22, qs_23, qs_28, qs_25, qs_26, qs_7, qs_8, kc_1, kn_1, kc_2, kn_2, kc_3, kn_3, kc_4, kn_4, kc_5, kn_5, kc_6, kn_6, kc_7, kn_7, kc_8, kn_8, kc_9, kn_9, kc_10, kn_10, kc_11, kn_11, kc_12, kn_12, kc_13, kn_13, kc_14, kn_14, kc_15, kn_15, kc_16, kc_17, kc_18, kc_19, kc_20, kc_21, kc_22, kc_23, kc_30, kc_32, kc_40, kc_43, kc_45, kc_48, kc_52, kc_56, kc_57, kc_59, kc_60, kc_61, kc_63, kc_64, kc_72, kc_78, kc_97, kc_99, kc_122, kc_126, kc_128, kc_192, kc_200, kc_255, kc_999, kc_1000, kc_9999, kn_9999, kc_10000, kc_12345, kc_65536, kc_252645135, kc_858993459, kc_1103515245, kc_1431655765, kc_2147483647, kc_0, kc_24, kc_28, kc_37, kc_41, kc_42, kc_73, kc_91, kc_95, kc_96, kc_98, kc_100, kc_112, kc_125, kc_150, kc_162, kc_163, kc_168, kc_186, kc_190, kc_250, kc_355, kc_356, kc_404, kc_405, kc_429, kc_573, kc_1002, kc_1100, kc_1891, kc_2200, kc_4719, kc_4869, kc_4881, kc_5148, kc_19741, kc_25433, kc_320403, kc_628412, kc_629093, kc_660401, kc_679843, kc_918640, kc_979410, kc_1178088, kc_6232410, kc_24644941, kc_36238189, kc_38270444, kc_392531318, kc_425693491, kc_1342154595, kc_2147483648, kc_42328242873, kc_891704255789, kc_1722105685577, kc_1858726030364, ct_0, ct_1, ct_2, ct_3, ct_4, ct_5, cf_0, cf_1, cf_2, cf_3, cf_4, cf_5, w_ty6, w_ty7, m_sv, m_z0, m_hd, m_g0, m_gs, m_s0, m_ss, m_ap, m_an, forall_const, true_and, and_true, ne_eq, not_true_eq_false, not_false_eq_true, false_implies, true_implies, implies_true, eq_self, reduceCtorEq, Nat.reduceDiv, Nat.reduceMod, Int.reduceToNat, or_true, true_or, or_false, false_or, or_self, m_it, m_if, m_c1, m_01, m_02, m_03, m_04, m_10, m_12, m_13, m_14, m_20, m_21, m_23, m_24, m_30, m_31, m_32, m_34, m_40, m_41, m_42, m_43, Int.reduceLE, Int.reduceLT, Int.reduceGE, Int.reduceGT, Int.reduceNeg, Int.reduceAdd, Int.reduceSub, Int.reduceMul, Int.reduceEq, Int.reduceNe, Nat.reduceAdd, jun2, ro_0_0, ro_0_1, ro_0_2, ro_0_3, ro_0_4, ro_0_5, ro_0_6, ro_0_7, ro_0_8, ro_0_9, ro_0_10, ro_0_11, ro_0_12, ro_1_0, ro_1_1, ro_2_0, ro_4_0, ro_6_0, ro_6_1, ro_6_2, ro_6_3, ro_6_4, ro_6_5, ro_6_6, ro_6_7, ro_6_8, ro_8_0, ro_10_0, ro_12_0, ro_14_0, ro_16_0, ro_18_0, ro_20_0, ro_22_0, ro_22_1, ro_22_2, ro_23_0, ro_25_0, ro_27_0, ro_29_0, ro_29_1, ro_29_2, ro_29_3, ro_29_4, ro_29_5, ro_29_6, ro_29_7, ro_29_8, ro_31_0, ro_33_0, ro_35_0, ro_37_0, ro_39_0, ro_41_0, ro_43_0, ro_45_0, ro_45_1, ro_45_2, ro_46_0, ro_48_0, ro_50_0, ro_52_0, ro_52_1, ro_52_2, ro_52_3, ro_53_0, ro_55_0, ro_57_0, ro_59_0, ro_61_0, ro_61_1, ro_61_2, ro_61_3, ro_62_0, ro_64_0, ro_66_0, ro_68_0, ro_70_0, ro_70_1, ro_70_2, ro_70_3, ro_70_4, ro_70_5, ro_70_6, ro_70_7, ro_70_8, ro_70_9, ro_71_0, ro_73_0, ro_75_0, ro_77_0, ro_79_0, ro_81_0, ro_83_0, ro_85_0, ro_87_0, ro_89_0, ro_91_0, ro_91_1, ro_91_2, ro_91_3, ro_91_4, ro_91_5, ro_91_6, ro_91_7, ro_91_8, ro_91_9, ro_92_0, ro_94_0, ro_96_0, ro_98_0, ro_100_0, ro_102_0, ro_104_0, ro_106_0, ro_108_0, ro_110_0, ro_112_0, ro_112_1, ro_112_2, ro_112_3, ro_112_4, ro_112_5, ro_112_6, ro_112_7, ro_112_8, ro_112_9, ro_113_0, ro_115_0, ro_117_0, ro_119_0, ro_121_0, ro_123_0, ro_125_0, ro_127_0, ro_129_0, ro_131_0, ro_133_0, ro_133_1, ro_133_2, ro_133_3, ro_133_4, ro_133_5, ro_133_6, ro_133_7, ro_133_8, ro_133_9, ro_134_0, ro_136_0, ro_138_0, ro_140_0, ro_142_0, ro_144_0, ro_146_0, ro_148_0, ro_150_0, ro_152_0, ro_154_0, ro_155_0, ro_157_0, ro_157_1, ro_157_2, ro_157_3, ro_157_4, ro_157_5, ro_157_6, ro_157_7, ro_157_8, ro_157_9, ro_158_0, ro_160_0, ro_162_0, ro_164_0, ro_166_0, ro_168_0, ro_170_0, ro_172_0, ro_174_0, ro_176_0, ro_178_0, ro_180_0, ro_182_1, ro_182_4, ro_182_5, ro_182_6, ro_182_9, ro_182_10, ro_182_11, ro_182_13, ro_182_14, ro_182_15, ro_182_16, ro_182_17, ro_182_20, ro_182_21, ro_182_22, ro_182_23, ro_182_24, ro_182_26, ro_182_27, ro_182_28, lo_3, lo_5, lo_7, lo_9, lo_11, lo_13, lo_15, lo_17, lo_19, lo_21, lo_24, lo_26, lo_28, lo_30, lo_32, lo_34, lo_36, lo_38, lo_40, lo_42, lo_44, lo_47, lo_49, lo_51, lo_54, lo_56, lo_58, lo_60, lo_63, lo_65, lo_67, lo_69, lo_72, lo_74, lo_76, lo_78, lo_80, lo_82, lo_84, lo_86, lo_88, lo_90, lo_93, lo_95, lo_97, lo_99, lo_101, lo_103, lo_105, lo_107, lo_109, lo_111, lo_114, lo_116, lo_118, lo_120, lo_122, lo_124, lo_126, lo_128, lo_130, lo_132, lo_135, lo_137, lo_139, lo_141, lo_143, lo_145, lo_147, lo_149, lo_151, lo_153, lo_156, lo_159, lo_161, lo_163, lo_165, lo_167, lo_169, lo_171, lo_173, lo_175, lo_177, lo_179, lo_181, lo_183, lo_184, lo_185, lo_186, lo_187, lo_188, lo_189, lo_190, lo_191, lo_192, lo_193, lo_194, lo_195, lo_196, lo_197, lo_198, lo_199, lo_200, lo_201, lo_202, lo_203, jp_nn, jp_eq, jp_e1, Classical.not_not, ji0, ji1, ji2, cs24_194, kk_194, cs24_210, kk_210, cs24_190, kk_190, cs24_199, kk_199, cs24_241, kk_241s, jl_0, jl_1, jl_2, jl_3, jl_4, jl_5, jl_6, jl_7, jl_8, jl_9, jl_10, jl_11, jl_12, jl_13, jl_14, jl_15, jl_16, jl_17, jl_18, jl_19, jl_20, jl_21, jl_22, jl_23, jl_24, jl_25, jl_26, jl_27, jl_28, jl_29, jl_30, jl_31, jl_32, jl_33, jl_34, jl_35, jl_36, jl_37, jl_38, jl_39, jl_40, jl_95, jl_96, jl_97, jl_98, jl_99, jl_100, jl_101, jl_102, jl_103, jl_104, jl_105, jl_106, jl_107, jl_108, jl_109, jl_110, jl_111, jl_112, jl_113, jl_114, jl_186, jl_1100, jr, ju, jpT, jpF, tnc, Nat.reduceEqDiff, reduceIte, and_false, false_and, not_true_eq_false, not_false_eq_true, or_false, gt_iff_lt, ge_iff_le, Int.lt_irrefl, Int.le_refl, y1, y1', ek, ei]
          intros
          refine ⟨k1_w + 1, rfl, by omega, Fr.tr g3_w (Fr.arr rfl), fun q z => ?_, fun q z => ?_⟩
          · by_cases yq : q = k1_w
            · rw [if_pos yq, yq]
              exact d3_w _ (by omega)
            · rw [if_neg yq]
              exact c3 q (by omega)
          · rw [if_neg (by omega)]
            exact d3_w q z
        have y1' : (95 : Int) ≤ (k1_w : Int) := by omega
        have e95_w : k1_w = 95 := by omega
        subst e95_w
        have m3_w : h3 182 12 = h' 182 12 := g3_w 182 12 (fun _ => rfl) rfl
        have n3_w : h3 189 = h' 189 := g3_w.row rfl (by decide)
        simp only [qe_1, qe_3, qe_4, qe_5, qe_7, qe_72, qe_10, qe_102, qe_13, qe_14, qe_15, qe_16, qe_17, qe_18, qe_20, qe_22, qe_23, qe_21, qe_24, qe_25, qe_26, qe_27, qe_28, qe_30, qe_31, qe_32, qc_20, qc_22, qc_23, qc_21, qc_24, qc_25, qc_26, qc_27, qc_1, qc_3, qc_4, qc_7, qc_13, qc_28, qc_32, qs_1, qs_2, qs_3, qs_4, qs_5, qs_6, qs_9, qs_10, qs_11, qs_14, qs_15, qs_16, qs_27, qs_17, qs_18, qs_19, qs_20, qs_22, qs_23, qs_28, qs_25, qs_26, qs_7, qs_8, kc_1, kn_1, kc_2, kn_2, kc_3, kn_3, kc_4, kn_4, kc_5, kn_5, kc_6, kn_6, kc_7, kn_7, kc_8, kn_8, kc_9, kn_9, kc_10, kn_10, kc_11, kn_11, kc_12, kn_12, kc_13, kn_13, kc_14, kn_14, kc_15, kn_15, kc_16, kc_17, kc_18, kc_19, kc_20, kc_21, kc_22, kc_23, kc_30, kc_32, kc_40, kc_43, kc_45, kc_48, kc_52, kc_56, kc_57, kc_59, kc_60, kc_61, kc_63, kc_64, kc_72, kc_78, kc_97, kc_99, kc_122, kc_126, kc_128, kc_192, kc_200, kc_255, kc_999, kc_1000, kc_9999, kn_9999, kc_10000, kc_12345, kc_65536, kc_252645135, kc_858993459, kc_1103515245, kc_1431655765, kc_2147483647, kc_0, kc_24, kc_28, kc_37, kc_41, kc_42, kc_73, kc_91, kc_95, kc_96, kc_98, kc_100, kc_112, kc_125, kc_150, kc_162, kc_163, kc_168, kc_186, kc_190, kc_250, kc_355, kc_356, kc_404, kc_405, kc_429, kc_573, kc_1002, kc_1100, kc_1891, kc_2200, kc_4719, kc_4869, kc_4881, kc_5148, kc_19741, kc_25433, kc_320403, kc_628412, kc_629093, kc_660401, kc_679843, kc_918640, kc_979410, kc_1178088, kc_6232410, kc_24644941, kc_36238189, kc_38270444, kc_392531318, kc_425693491, kc_1342154595, kc_2147483648, kc_42328242873, kc_891704255789, kc_1722105685577, kc_1858726030364, ct_0, ct_1, ct_2, ct_3, ct_4, ct_5, cf_0, cf_1, cf_2, cf_3, cf_4, cf_5, w_ty6, w_ty7, m_sv, m_z0, m_hd, m_g0, m_gs, m_s0, m_ss, m_ap, m_an, forall_const, true_and, and_true, ne_eq, not_true_eq_false, not_false_eq_true, false_implies, true_implies, implies_true, eq_self, reduceCtorEq, Nat.reduceDiv, Nat.reduceMod, Int.reduceToNat, or_true, true_or, or_false, false_or, or_self, m_it, m_if, m_c1, m_01, m_02, m_03, m_04, m_10, m_12, m_13, m_14, m_20, m_21, m_23, m_24, m_30, m_31, m_32, m_34, m_40, m_41, m_42, m_43, Int.reduceLE, Int.reduceLT, Int.reduceGE, Int.reduceGT, Int.reduceNeg, Int.reduceAdd, Int.reduceSub, Int.reduceMul, Int.reduceEq, Int.reduceNe, Nat.reduceAdd, jun2, ro_0_0, ro_0_1, ro_0_2, ro_0_3, ro_0_4, ro_0_5, ro_0_6, ro_0_7, ro_0_8, ro_0_9, ro_0_10, ro_0_11, ro_0_12, ro_1_0, ro_1_1, ro_2_0, ro_4_0, ro_6_0, ro_6_1, ro_6_2, ro_6_3, ro_6_4, ro_6_5, ro_6_6, ro_6_7, ro_6_8, ro_8_0, ro_10_0, ro_12_0, ro_14_0, ro_16_0, ro_18_0, ro_20_0, ro_22_0, ro_22_1, ro_22_2, ro_23_0, ro_25_0, ro_27_0, ro_29_0, ro_29_1, ro_29_2, ro_29_3, ro_29_4, ro_29_5, ro_29_6, ro_29_7, ro_29_8, ro_31_0, ro_33_0, ro_35_0, ro_37_0, ro_39_0, ro_41_0, ro_43_0, ro_45_0, ro_45_1, ro_45_2, ro_46_0, ro_48_0, ro_50_0, ro_52_0, ro_52_1, ro_52_2, ro_52_3, ro_53_0, ro_55_0, ro_57_0, ro_59_0, ro_61_0, ro_61_1, ro_61_2, ro_61_3, ro_62_0, ro_64_0, ro_66_0, ro_68_0, ro_70_0, ro_70_1, ro_70_2, ro_70_3, ro_70_4, ro_70_5, ro_70_6, ro_70_7, ro_70_8, ro_70_9, ro_71_0, ro_73_0, ro_75_0, ro_77_0, ro_79_0, ro_81_0, ro_83_0, ro_85_0, ro_87_0, ro_89_0, ro_91_0, ro_91_1, ro_91_2, ro_91_3, ro_91_4, ro_91_5, ro_91_6, ro_91_7, ro_91_8, ro_91_9, ro_92_0, ro_94_0, ro_96_0, ro_98_0, ro_100_0, ro_102_0, ro_104_0, ro_106_0, ro_108_0, ro_110_0, ro_112_0, ro_112_1, ro_112_2, ro_112_3, ro_112_4, ro_112_5, ro_112_6, ro_112_7, ro_112_8, ro_112_9, ro_113_0, ro_115_0, ro_117_0, ro_119_0, ro_121_0, ro_123_0, ro_125_0, ro_127_0, ro_129_0, ro_131_0, ro_133_0, ro_133_1, ro_133_2, ro_133_3, ro_133_4, ro_133_5, ro_133_6, ro_133_7, ro_133_8, ro_133_9, ro_134_0, ro_136_0, ro_138_0, ro_140_0, ro_142_0, ro_144_0, ro_146_0, ro_148_0, ro_150_0, ro_152_0, ro_154_0, ro_155_0, ro_157_0, ro_157_1, ro_157_2, ro_157_3, ro_157_4, ro_157_5, ro_157_6, ro_157_7, ro_157_8, ro_157_9, ro_158_0, ro_160_0, ro_162_0, ro_164_0, ro_166_0, ro_168_0, ro_170_0, ro_172_0, ro_174_0, ro_176_0, ro_178_0, ro_180_0, ro_182_1, ro_182_4, ro_182_5, ro_182_6, ro_182_9, ro_182_10, ro_182_11, ro_182_13, ro_182_14, ro_182_15, ro_182_16, ro_182_17, ro_182_20, ro_182_21, ro_182_22, ro_182_23, ro_182_24, ro_182_26, ro_182_27, ro_182_28, lo_3, lo_5, lo_7, lo_9, lo_11, lo_13, lo_15, lo_17, lo_19, lo_21, lo_24, lo_26, lo_28, lo_30, lo_32, lo_34, lo_36, lo_38, lo_40, lo_42, lo_44, lo_47, lo_49, lo_51, lo_54, lo_56, lo_58, lo_60, lo_63, lo_65, lo_67, lo_69, lo_72, lo_74, lo_76, lo_78, lo_80, lo_82, lo_84, lo_86, lo_88, lo_90, lo_93, lo_95, lo_97, lo_99, lo_101, lo_103, lo_105, lo_107, lo_109, lo_111, lo_114, lo_116, lo_118, lo_120, lo_122, lo_124, lo_126, lo_128, lo_130, lo_132, lo_135, lo_137, lo_139, lo_141, lo_143, lo_145, lo_147, lo_149, lo_151, lo_153, lo_156, lo_159, lo_161, lo_163, lo_165, lo_167, lo_169, lo_171, lo_173, lo_175, lo_177, lo_179, lo_181, lo_183, lo_184, lo_185, lo_186, lo_187, lo_188, lo_189, lo_190, lo_191, lo_192, lo_193, lo_194, lo_195, lo_196, lo_197, lo_198, lo_199, lo_200, lo_201, lo_202, lo_203, jp_nn, jp_eq, jp_e1, Classical.not_not, ji0, ji1, ji2, cs24_194, kk_194, cs24_210, kk_210, cs24_190, kk_190, cs24_199, kk_199, cs24_241, kk_241s, jl_0, jl_1, jl_2, jl_3, jl_4, jl_5, jl_6, jl_7, jl_8, jl_9, jl_10, jl_11, jl_12, jl_13, jl_14, jl_15, jl_16, jl_17, jl_18, jl_19, jl_20, jl_21, jl_22, jl_23, jl_24, jl_25, jl_26, jl_27, jl_28, jl_29, jl_30, jl_31, jl_32, jl_33, jl_34, jl_35, jl_36, jl_37, jl_38, jl_39, jl_40, jl_95, jl_96, jl_97, jl_98, jl_99, jl_100, jl_101, jl_102, jl_103, jl_104, jl_105, jl_106, jl_107, jl_108, jl_109, jl_110, jl_111, jl_112, jl_113, jl_114, jl_186, jl_1100, jr, ju, jpT, jpF, tnc, Nat.reduceEqDiff, reduceIte, and_false, false_and, not_true_eq_false, not_false_eq_true, or_false, gt_iff_lt, ge_iff_le, Int.lt_irrefl, Int.le_refl, y1, y1']
        refine qp_lp (fun en h4 => ∃ k : Nat, en = [182, (k : Int)] ∧ (k : Int) ≤ h' 182 12 ∧ Fr ([], [189]) h3 h4 ∧ (∀ q : Nat, q < k → h4 189 q = h' 189 (1100 + q)) ∧ ∀ q : Nat, 1100 ≤ q → h4 189 q = h' 189 q) ⟨0, rfl, cL.1, Fr.rf, fun q z => by omega, fun q _ => by rw [n3_w]⟩ ?_
        intro en h4 ⟨k2, e, k1100, g4, c4, d4_w⟩
        subst e
        have m4_w : h4 182 12 = h' 182 12 := (g4 182 12 (fun _ => rfl) rfl).trans m3_w
        by_cases y2 : (k2 : Int) < h' 182 12
        · have y2' : ¬ h' 182 12 ≤ (k2 : Int) := by omega
          have ek := jk1 (k := k2) (by omega)
          have ei : j32 (1100 + (k2 : Int)) = ((1100 + k2 : Nat) : Int) := jcn (by omega) (by omega)
          simp only [qe_1, qe_3, qe_4, qe_5, qe_7, qe_72, qe_10, qe_102, qe_13, qe_14, qe_15, qe_16, qe_17, qe_18, qe_20, qe_22, qe_23, qe_21, qe_24, qe_25, qe_26, qe_27, qe_28, qe_30, qe_31, qe_32, qc_20, qc_22, qc_23, qc_21, qc_24, qc_25, qc_26, qc_27, qc_1, qc_3, qc_4, qc_7, qc_13, qc_28, qc_32, qs_1, qs_2, qs_3, qs_4, qs_5, qs_6, qs_9, qs_10, qs_11, qs_14, qs_15, qs_16, qs_27, qs_17, qs_18, qs_19, qs_20, qs_22, qs_23, qs_28, qs_25, qs_26, qs_7, qs_8, kc_1, kn_1, kc_2, kn_2, kc_3, kn_3, kc_4, kn_4, kc_5, kn_5, kc_6, kn_6, kc_7, kn_7, kc_8, kn_8, kc_9, kn_9, kc_10, kn_10, kc_11, kn_11, kc_12, kn_12, kc_13, kn_13, kc_14, kn_14, kc_15, kn_15, kc_16, kc_17, kc_18, kc_19, kc_20, kc_21, kc_22, kc_23, kc_30, kc_32, kc_40, kc_43, kc_45, kc_48, kc_52, kc_56, kc_57, kc_59, kc_60, kc_61, kc_63, kc_64, kc_72, kc_78, kc_97, kc_99, kc_122, kc_126, kc_128, kc_192, kc_200, kc_255, kc_999, kc_1000, kc_9999, kn_9999, kc_10000, kc_12345, kc_65536, kc_252645135, kc_858993459, kc_1103515245, kc_1431655765, kc_2147483647, kc_0, kc_24, kc_28, kc_37, kc_41, kc_42, kc_73, kc_91, kc_95, kc_96, kc_98, kc_100, kc_112, kc_125, kc_150, kc_162, kc_163, kc_168, kc_186, kc_190, kc_250, kc_355, kc_356, kc_404, kc_405, kc_429, kc_573, kc_1002, kc_1100, kc_1891, kc_2200, kc_4719, kc_4869, kc_4881, kc_5148, kc_19741, kc_25433, kc_320403, kc_628412, kc_629093, kc_660401, kc_679843, kc_918640, kc_979410, kc_1178088, kc_6232410, kc_24644941, kc_36238189, kc_38270444, kc_392531318, kc_425693491, kc_1342154595, kc_2147483648, kc_42328242873, kc_891704255789, kc_1722105685577, kc_1858726030364, ct_0, ct_1, ct_2, ct_3, ct_4, ct_5, cf_0, cf_1, cf_2, cf_3, cf_4, cf_5, w_ty6, w_ty7, m_sv, m_z0, m_hd, m_g0, m_gs, m_s0, m_ss, m_ap, m_an, forall_const, true_and, and_true, ne_eq, not_true_eq_false, not_false_eq_true, false_implies, true_implies, implies_true, eq_self, reduceCtorEq, Nat.reduceDiv, Nat.reduceMod, Int.reduceToNat, or_true, true_or, or_false, false_or, or_self, m_it, m_if, m_c1, m_01, m_02, m_03, m_04, m_10, m_12, m_13, m_14, m_20, m_21, m_23, m_24, m_30, m_31, m_32, m_34, m_40, m_41, m_42, m_43, Int.reduceLE, Int.reduceLT, Int.reduceGE, Int.reduceGT, Int.reduceNeg, Int.reduceAdd, Int.reduceSub, Int.reduceMul, Int.reduceEq, Int.reduceNe, Nat.reduceAdd, jun2, ro_0_0, ro_0_1, ro_0_2, ro_0_3, ro_0_4, ro_0_5, ro_0_6, ro_0_7, ro_0_8, ro_0_9, ro_0_10, ro_0_11, ro_0_12, ro_1_0, ro_1_1, ro_2_0, ro_4_0, ro_6_0, ro_6_1, ro_6_2, ro_6_3, ro_6_4, ro_6_5, ro_6_6, ro_6_7, ro_6_8, ro_8_0, ro_10_0, ro_12_0, ro_14_0, ro_16_0, ro_18_0, ro_20_0, ro_22_0, ro_22_1, ro_22_2, ro_23_0, ro_25_0, ro_27_0, ro_29_0, ro_29_1, ro_29_2, ro_29_3, ro_29_4, ro_29_5, ro_29_6, ro_29_7, ro_29_8, ro_31_0, ro_33_0, ro_35_0, ro_37_0, ro_39_0, ro_41_0, ro_43_0, ro_45_0, ro_45_1, ro_45_2, ro_46_0, ro_48_0, ro_50_0, ro_52_0, ro_52_1, ro_52_2, ro_52_3, ro_53_0, ro_55_0, ro_57_0, ro_59_0, ro_61_0, ro_61_1, ro_61_2, ro_61_3, ro_62_0, ro_64_0, ro_66_0, ro_68_0, ro_70_0, ro_70_1, ro_70_2, ro_70_3, ro_70_4, ro_70_5, ro_70_6, ro_70_7, ro_70_8, ro_70_9, ro_71_0, ro_73_0, ro_75_0, ro_77_0, ro_79_0, ro_81_0, ro_83_0, ro_85_0, ro_87_0, ro_89_0, ro_91_0, ro_91_1, ro_91_2, ro_91_3, ro_91_4, ro_91_5, ro_91_6, ro_91_7, ro_91_8, ro_91_9, ro_92_0, ro_94_0, ro_96_0, ro_98_0, ro_100_0, ro_102_0, ro_104_0, ro_106_0, ro_108_0, ro_110_0, ro_112_0, ro_112_1, ro_112_2, ro_112_3, ro_112_4, ro_112_5, ro_112_6, ro_112_7, ro_112_8, ro_112_9, ro_113_0, ro_115_0, ro_117_0, ro_119_0, ro_121_0, ro_123_0, ro_125_0, ro_127_0, ro_129_0, ro_131_0, ro_133_0, ro_133_1, ro_133_2, ro_133_3, ro_133_4, ro_133_5, ro_133_6, ro_133_7, ro_133_8, ro_133_9, ro_134_0, ro_136_0, ro_138_0, ro_140_0, ro_142_0, ro_144_0, ro_146_0, ro_148_0, ro_150_0, ro_152_0, ro_154_0, ro_155_0, ro_157_0, ro_157_1, ro_157_2, ro_157_3, ro_157_4, ro_157_5, ro_157_6, ro_157_7, ro_157_8, ro_157_9, ro_158_0, ro_160_0, ro_162_0, ro_164_0, ro_166_0, ro_168_0, ro_170_0, ro_172_0, ro_174_0, ro_176_0, ro_178_0, ro_180_0, ro_182_1, ro_182_4, ro_182_5, ro_182_6, ro_182_9, ro_182_10, ro_182_11, ro_182_13, ro_182_14, ro_182_15, ro_182_16, ro_182_17, ro_182_20, ro_182_21, ro_182_22, ro_182_23, ro_182_24, ro_182_26, ro_182_27, ro_182_28, lo_3, lo_5, lo_7, lo_9, lo_11, lo_13, lo_15, lo_17, lo_19, lo_21, lo_24, lo_26, lo_28, lo_30, lo_32, lo_34, lo_36, lo_38, lo_40, lo_42, lo_44, lo_47, lo_49, lo_51, lo_54, lo_56, lo_58, lo_60, lo_63, lo_65, lo_67, lo_69, lo_72, lo_74, lo_76, lo_78, lo_80, lo_82, lo_84, lo_86, lo_88, lo_90, lo_93, lo_95, lo_97, lo_99, lo_101, lo_103, lo_105, lo_107, lo_109, lo_111, lo_114, lo_116, lo_118, lo_120, lo_122, lo_124, lo_126, lo_128, lo_130, lo_132, lo_135, lo_137, lo_139, lo_141, lo_143, lo_145, lo_147, lo_149, lo_151, lo_153, lo_156, lo_159, lo_161, lo_163, lo_165, lo_167, lo_169, lo_171, lo_173, lo_175, lo_177, lo_179, lo_181, lo_183, lo_184, lo_185, lo_186, lo_187, lo_188, lo_189, lo_190, lo_191, lo_192, lo_193, lo_194, lo_195, lo_196, lo_197, lo_198, lo_199, lo_200, lo_201, lo_202, lo_203, jp_nn, jp_eq, jp_e1, Classical.not_not, ji0, ji1, ji2, cs24_194, kk_194, cs24_210, kk_210, cs24_190, kk_190, cs24_199, kk_199, cs24_241, kk_241s, jl_0, jl_1, jl_2, jl_3, jl_4, jl_5, jl_6, jl_7, jl_8, jl_9, jl_10, jl_11, jl_12, jl_13, jl_14, jl_15, jl_16, jl_17, jl_18, jl_19, jl_20, jl_21, jl_22, jl_23, jl_24, jl_25, jl_26, jl_27, jl_28, jl_29, jl_30, jl_31, jl_32, jl_33, jl_34, jl_35, jl_36, jl_37, jl_38, jl_39, jl_40, jl_95, jl_96, jl_97, jl_98, jl_99, jl_100, jl_101, jl_102, jl_103, jl_104, jl_105, jl_106, jl_107, jl_108, jl_109, jl_110, jl_111, jl_112, jl_113, jl_114, jl_186, jl_1100, jr, ju, jpT, jpF, tnc, Nat.reduceEqDiff, reduceIte, and_false, false_and, not_true_eq_false, not_false_eq_true, or_false, gt_iff_lt, ge_iff_le, Int.lt_irrefl, Int.le_refl, m4_w, y2, y2', ek, ei]
          intros
          refine ⟨k2 + 1, rfl, by omega, Fr.tr g4 (Fr.arr rfl), fun q z => ?_, fun q z => ?_⟩
          · by_cases yq : q = k2
            · rw [if_pos yq, yq]
              exact d4_w _ (by omega)
            · rw [if_neg yq]
              exact c4 q (by omega)
          · rw [if_neg (by omega)]
            exact d4_w q z
        have y2' : h' 182 12 ≤ (k2 : Int) := by omega
        have n4_w : h4 190 = h' 190 := (g4.row rfl (by decide)).trans (g3_w.row rfl (by decide))
        simp only [qe_1, qe_3, qe_4, qe_5, qe_7, qe_72, qe_10, qe_102, qe_13, qe_14, qe_15, qe_16, qe_17, qe_18, qe_20, qe_22, qe_23, qe_21, qe_24, qe_25, qe_26, qe_27, qe_28, qe_30, qe_31, qe_32, qc_20, qc_22, qc_23, qc_21, qc_24, qc_25, qc_26, qc_27, qc_1, qc_3, qc_4, qc_7, qc_13, qc_28, qc_32, qs_1, qs_2, qs_3, qs_4, qs_5, qs_6, qs_9, qs_10, qs_11, qs_14, qs_15, qs_16, qs_27, qs_17, qs_18, qs_19, qs_20, qs_22, qs_23, qs_28, qs_25, qs_26, qs_7, qs_8, kc_1, kn_1, kc_2, kn_2, kc_3, kn_3, kc_4, kn_4, kc_5, kn_5, kc_6, kn_6, kc_7, kn_7, kc_8, kn_8, kc_9, kn_9, kc_10, kn_10, kc_11, kn_11, kc_12, kn_12, kc_13, kn_13, kc_14, kn_14, kc_15, kn_15, kc_16, kc_17, kc_18, kc_19, kc_20, kc_21, kc_22, kc_23, kc_30, kc_32, kc_40, kc_43, kc_45, kc_48, kc_52, kc_56, kc_57, kc_59, kc_60, kc_61, kc_63, kc_64, kc_72, kc_78, kc_97, kc_99, kc_122, kc_126, kc_128, kc_192, kc_200, kc_255, kc_999, kc_1000, kc_9999, kn_9999, kc_10000, kc_12345, kc_65536, kc_252645135, kc_858993459, kc_1103515245, kc_1431655765, kc_2147483647, kc_0, kc_24, kc_28, kc_37, kc_41, kc_42, kc_73, kc_91, kc_95, kc_96, kc_98, kc_100, kc_112, kc_125, kc_150, kc_162, kc_163, kc_168, kc_186, kc_190, kc_250, kc_355, kc_356, kc_404, kc_405, kc_429, kc_573, kc_1002, kc_1100, kc_1891, kc_2200, kc_4719, kc_4869, kc_4881, kc_5148, kc_19741, kc_25433, kc_320403, kc_628412, kc_629093, kc_660401, kc_679843, kc_918640, kc_979410, kc_1178088, kc_6232410, kc_24644941, kc_36238189, kc_38270444, kc_392531318, kc_425693491, kc_1342154595, kc_2147483648, kc_42328242873, kc_891704255789, kc_1722105685577, kc_1858726030364, ct_0, ct_1, ct_2, ct_3, ct_4, ct_5, cf_0, cf_1, cf_2, cf_3, cf_4, cf_5, w_ty6, w_ty7, m_sv, m_z0, m_hd, m_g0, m_gs, m_s0, m_ss, m_ap, m_an, forall_const, true_and, and_true, ne_eq, not_true_eq_false, not_false_eq_true, false_implies, true_implies, implies_true, eq_self, reduceCtorEq, Nat.reduceDiv, Nat.reduceMod, Int.reduceToNat, or_true, true_or, or_false, false_or, or_self, m_it, m_if, m_c1, m_01, m_02, m_03, m_04, m_10, m_12, m_13, m_14, m_20, m_21, m_23, m_24, m_30, m_31, m_32, m_34, m_40, m_41, m_42, m_43, Int.reduceLE, Int.reduceLT, Int.reduceGE, Int.reduceGT, Int.reduceNeg, Int.reduceAdd, Int.reduceSub, Int.reduceMul, Int.reduceEq, Int.reduceNe, Nat.reduceAdd, jun2, ro_0_0, ro_0_1, ro_0_2, ro_0_3, ro_0_4, ro_0_5, ro_0_6, ro_0_7, ro_0_8, ro_0_9, ro_0_10, ro_0_11, ro_0_12, ro_1_0, ro_1_1, ro_2_0, ro_4_0, ro_6_0, ro_6_1, ro_6_2, ro_6_3, ro_6_4, ro_6_5, ro_6_6, ro_6_7, ro_6_8, ro_8_0, ro_10_0, ro_12_0, ro_14_0, ro_16_0, ro_18_0, ro_20_0, ro_22_0, ro_22_1, ro_22_2, ro_23_0, ro_25_0, ro_27_0, ro_29_0, ro_29_1, ro_29_2, ro_29_3, ro_29_4, ro_29_5, ro_29_6, ro_29_7, ro_29_8, ro_31_0, ro_33_0, ro_35_0, ro_37_0, ro_39_0, ro_41_0, ro_43_0, ro_45_0, ro_45_1, ro_45_2, ro_46_0, ro_48_0, ro_50_0, ro_52_0, ro_52_1, ro_52_2, ro_52_3, ro_53_0, ro_55_0, ro_57_0, ro_59_0, ro_61_0, ro_61_1, ro_61_2, ro_61_3, ro_62_0, ro_64_0, ro_66_0, ro_68_0, ro_70_0, ro_70_1, ro_70_2, ro_70_3, ro_70_4, ro_70_5, ro_70_6, ro_70_7, ro_70_8, ro_70_9, ro_71_0, ro_73_0, ro_75_0, ro_77_0, ro_79_0, ro_81_0, ro_83_0, ro_85_0, ro_87_0, ro_89_0, ro_91_0, ro_91_1, ro_91_2, ro_91_3, ro_91_4, ro_91_5, ro_91_6, ro_91_7, ro_91_8, ro_91_9, ro_92_0, ro_94_0, ro_96_0, ro_98_0, ro_100_0, ro_102_0, ro_104_0, ro_106_0, ro_108_0, ro_110_0, ro_112_0, ro_112_1, ro_112_2, ro_112_3, ro_112_4, ro_112_5, ro_112_6, ro_112_7, ro_112_8, ro_112_9, ro_113_0, ro_115_0, ro_117_0, ro_119_0, ro_121_0, ro_123_0, ro_125_0, ro_127_0, ro_129_0, ro_131_0, ro_133_0, ro_133_1, ro_133_2, ro_133_3, ro_133_4, ro_133_5, ro_133_6, ro_133_7, ro_133_8, ro_133_9, ro_134_0, ro_136_0, ro_138_0, ro_140_0, ro_142_0, ro_144_0, ro_146_0, ro_148_0, ro_150_0, ro_152_0, ro_154_0, ro_155_0, ro_157_0, ro_157_1, ro_157_2, ro_157_3, ro_157_4, ro_157_5, ro_157_6, ro_157_7, ro_157_8, ro_157_9, ro_158_0, ro_160_0, ro_162_0, ro_164_0, ro_166_0, ro_168_0, ro_170_0, ro_172_0, ro_174_0, ro_176_0, ro_178_0, ro_180_0, ro_182_1, ro_182_4, ro_182_5, ro_182_6, ro_182_9, ro_182_10, ro_182_11, ro_182_13, ro_182_14, ro_182_15, ro_182_16, ro_182_17, ro_182_20, ro_182_21, ro_182_22, ro_182_23, ro_182_24, ro_182_26, ro_182_27, ro_182_28, lo_3, lo_5, lo_7, lo_9, lo_11, lo_13, lo_15, lo_17, lo_19, lo_21, lo_24, lo_26, lo_28, lo_30, lo_32, lo_34, lo_36, lo_38, lo_40, lo_42, lo_44, lo_47, lo_49, lo_51, lo_54, lo_56, lo_58, lo_60, lo_63, lo_65, lo_67, lo_69, lo_72, lo_74, lo_76, lo_78, lo_80, lo_82, lo_84, lo_86, lo_88, lo_90, lo_93, lo_95, lo_97, lo_99, lo_101, lo_103, lo_105, lo_107, lo_109, lo_111, lo_114, lo_116, lo_118, lo_120, lo_122, lo_124, lo_126, lo_128, lo_130, lo_132, lo_135, lo_137, lo_139, lo_141, lo_143, lo_145, lo_147, lo_149, lo_151, lo_153, lo_156, lo_159, lo_161, lo_163, lo_165, lo_167, lo_169, lo_171, lo_173, lo_175, lo_177, lo_179, lo_181, lo_183, lo_184, lo_185, lo_186, lo_187, lo_188, lo_189, lo_190, lo_191, lo_192, lo_193, lo_194, lo_195, lo_196, lo_197, lo_198, lo_199, lo_200, lo_201, lo_202, lo_203, jp_nn, jp_eq, jp_e1, Classical.not_not, ji0, ji1, ji2, cs24_194, kk_194, cs24_210, kk_210, cs24_190, kk_190, cs24_199, kk_199, cs24_241, kk_241s, jl_0, jl_1, jl_2, jl_3, jl_4, jl_5, jl_6, jl_7, jl_8, jl_9, jl_10, jl_11, jl_12, jl_13, jl_14, jl_15, jl_16, jl_17, jl_18, jl_19, jl_20, jl_21, jl_22, jl_23, jl_24, jl_25, jl_26, jl_27, jl_28, jl_29, jl_30, jl_31, jl_32, jl_33, jl_34, jl_35, jl_36, jl_37, jl_38, jl_39, jl_40, jl_95, jl_96, jl_97, jl_98, jl_99, jl_100, jl_101, jl_102, jl_103, jl_104, jl_105, jl_106, jl_107, jl_108, jl_109, jl_110, jl_111, jl_112, jl_113, jl_114, jl_186, jl_1100, jr, ju, jpT, jpF, tnc, Nat.reduceEqDiff, reduceIte, and_false, false_and, not_true_eq_false, not_false_eq_true, or_false, gt_iff_lt, ge_iff_le, Int.lt_irrefl, Int.le_refl, m4_w, y2, y2']
        refine qp_lp (fun en h5 => ∃ k : Nat, en = [182, (k : Int)] ∧ k ≤ 14 ∧ Fr ([], [190]) h4 h5 ∧ (∀ q : Nat, q < k → h5 190 q = h' 190 (14 + q)) ∧ ∀ q : Nat, 14 ≤ q → h5 190 q = h' 190 q) ⟨0, rfl, by omega, Fr.rf, fun q z => by omega, fun q _ => by rw [n4_w]⟩ ?_
        intro en h5 ⟨k3, e, k14, g5_w, c5, d5⟩
        subst e
        by_cases y3 : (k3 : Int) < 14
        · have y3' : ¬ (14 : Int) ≤ (k3 : Int) := by omega
          have ek := jk1 (k := k3) (by omega)
          have ei : j32 (14 + (k3 : Int)) = ((14 + k3 : Nat) : Int) := jcn (by omega) (by omega)
          simp only [qe_1, qe_3, qe_4, qe_5, qe_7, qe_72, qe_10, qe_102, qe_13, qe_14, qe_15, qe_16, qe_17, qe_18, qe_20, qe_22, qe_23, qe_21, qe_24, qe_25, qe_26, qe_27, qe_28, qe_30, qe_31, qe_32, qc_20, qc_22, qc_23, qc_21, qc_24, qc_25, qc_26, qc_27, qc_1, qc_3, qc_4, qc_7, qc_13, qc_28, qc_32, qs_1, qs_2, qs_3, qs_4, qs_5, qs_6, qs_9, qs_10, qs_11, qs_14, qs_15, qs_16, qs_27, qs_17, qs_18, qs_19, qs_20, qs_22, qs_23, qs_28, qs_25, qs_26, qs_7, qs_8, kc_1, kn_1, kc_2, kn_2, kc_3, kn_3, kc_4, kn_4, kc_5, kn_5, kc_6, kn_6, kc_7, kn_7, kc_8, kn_8, kc_9, kn_9, kc_10, kn_10, kc_11, kn_11, kc_12, kn_12, kc_13, kn_13, kc_14, kn_14, kc_15, kn_15, kc_16, kc_17, kc_18, kc_19, kc_20, kc_21, kc_22, kc_23, kc_30, kc_32, kc_40, kc_43, kc_45, kc_48, kc_52, kc_56, kc_57, kc_59, kc_60, kc_61, kc_63, kc_64, kc_72, kc_78, kc_97, kc_99, kc_122, kc_126, kc_128, kc_192, kc_200, kc_255, kc_999, kc_1000, kc_9999, kn_9999, kc_10000, kc_12345, kc_65536, kc_252645135, kc_858993459, kc_1103515245, kc_1431655765, kc_2147483647, kc_0, kc_24, kc_28, kc_37, kc_41, kc_42, kc_73, kc_91, kc_95, kc_96, kc_98, kc_100, kc_112, kc_125, kc_150, kc_162, kc_163, kc_168, kc_186, kc_190, kc_250, kc_355, kc_356, kc_404, kc_405, kc_429, kc_573, kc_1002, kc_1100, kc_1891, kc_2200, kc_4719, kc_4869, kc_4881, kc_5148, kc_19741, kc_25433, kc_320403, kc_628412, kc_629093, kc_660401, kc_679843, kc_918640, kc_979410, kc_1178088, kc_6232410, kc_24644941, kc_36238189, kc_38270444, kc_392531318, kc_425693491, kc_1342154595, kc_2147483648, kc_42328242873, kc_891704255789, kc_1722105685577, kc_1858726030364, ct_0, ct_1, ct_2, ct_3, ct_4, ct_5, cf_0, cf_1, cf_2, cf_3, cf_4, cf_5, w_ty6, w_ty7, m_sv, m_z0, m_hd, m_g0, m_gs, m_s0, m_ss, m_ap, m_an, forall_const, true_and, and_true, ne_eq, not_true_eq_false, not_false_eq_true, false_implies, true_implies, implies_true, eq_self, reduceCtorEq, Nat.reduceDiv, Nat.reduceMod, Int.reduceToNat, or_true, true_or, or_false, false_or, or_self, m_it, m_if, m_c1, m_01, m_02, m_03, m_04, m_10, m_12, m_13, m_14, m_20, m_21, m_23, m_24, m_30, m_31, m_32, m_34, m_40, m_41, m_42, m_43, Int.reduceLE, Int.reduceLT, Int.reduceGE, Int.reduceGT, Int.reduceNeg, Int.reduceAdd, Int.reduceSub, Int.reduceMul, Int.reduceEq, Int.reduceNe, Nat.reduceAdd, jun2, ro_0_0, ro_0_1, ro_0_2, ro_0_3, ro_0_4, ro_0_5, ro_0_6, ro_0_7, ro_0_8, ro_0_9, ro_0_10, ro_0_11, ro_0_12, ro_1_0, ro_1_1, ro_2_0, ro_4_0, ro_6_0, ro_6_1, ro_6_2, ro_6_3, ro_6_4, ro_6_5, ro_6_6, ro_6_7, ro_6_8, ro_8_0, ro_10_0, ro_12_0, ro_14_0, ro_16_0, ro_18_0, ro_20_0, ro_22_0, ro_22_1, ro_22_2, ro_23_0, ro_25_0, ro_27_0, ro_29_0, ro_29_1, ro_29_2, ro_29_3, ro_29_4, ro_29_5, ro_29_6, ro_29_7, ro_29_8, ro_31_0, ro_33_0, ro_35_0, ro_37_0, ro_39_0, ro_41_0, ro_43_0, ro_45_0, ro_45_1, ro_45_2, ro_46_0, ro_48_0, ro_50_0, ro_52_0, ro_52_1, ro_52_2, ro_52_3, ro_53_0, ro_55_0, ro_57_0, ro_59_0, ro_61_0, ro_61_1, ro_61_2, ro_61_3, ro_62_0, ro_64_0, ro_66_0, ro_68_0, ro_70_0, ro_70_1, ro_70_2, ro_70_3, ro_70_4, ro_70_5, ro_70_6, ro_70_7, ro_70_8, ro_70_9, ro_71_0, ro_73_0, ro_75_0, ro_77_0, ro_79_0, ro_81_0, ro_83_0, ro_85_0, ro_87_0, ro_89_0, ro_91_0, ro_91_1, ro_91_2, ro_91_3, ro_91_4, ro_91_5, ro_91_6, ro_91_7, ro_91_8, ro_91_9, ro_92_0, ro_94_0, ro_96_0, ro_98_0, ro_100_0, ro_102_0, ro_104_0, ro_106_0, ro_108_0, ro_110_0, ro_112_0, ro_112_1, ro_112_2, ro_112_3, ro_112_4, ro_112_5, ro_112_6, ro_112_7, ro_112_8, ro_112_9, ro_113_0, ro_115_0, ro_117_0, ro_119_0, ro_121_0, ro_123_0, ro_125_0, ro_127_0, ro_129_0, ro_131_0, ro_133_0, ro_133_1, ro_133_2, ro_133_3, ro_133_4, ro_133_5, ro_133_6, ro_133_7, ro_133_8, ro_133_9, ro_134_0, ro_136_0, ro_138_0, ro_140_0, ro_142_0, ro_144_0, ro_146_0, ro_148_0, ro_150_0, ro_152_0, ro_154_0, ro_155_0, ro_157_0, ro_157_1, ro_157_2, ro_157_3, ro_157_4, ro_157_5, ro_157_6, ro_157_7, ro_157_8, ro_157_9, ro_158_0, ro_160_0, ro_162_0, ro_164_0, ro_166_0, ro_168_0, ro_170_0, ro_172_0, ro_174_0, ro_176_0, ro_178_0, ro_180_0, ro_182_1, ro_182_4, ro_182_5, ro_182_6, ro_182_9, ro_182_10, ro_182_11, ro_182_13, ro_182_14, ro_182_15, ro_182_16, ro_182_17, ro_182_20, ro_182_21, ro_182_22, ro_182_23, ro_182_24, ro_182_26, ro_182_27, ro_182_28, lo_3, lo_5, lo_7, lo_9, lo_11, lo_13, lo_15, lo_17, lo_19, lo_21, lo_24, lo_26, lo_28, lo_30, lo_32, lo_34, lo_36, lo_38, lo_40, lo_42, lo_44, lo_47, lo_49, lo_51, lo_54, lo_56, lo_58, lo_60, lo_63, lo_65, lo_67, lo_69, lo_72, lo_74, lo_76, lo_78, lo_80, lo_82, lo_84, lo_86, lo_88, lo_90, lo_93, lo_95, lo_97, lo_99, lo_101, lo_103, lo_105, lo_107, lo_109, lo_111, lo_114, lo_116, lo_118, lo_120, lo_122, lo_124, lo_126, lo_128, lo_130, lo_132, lo_135, lo_137, lo_139, lo_141, lo_143, lo_145, lo_147, lo_149, lo_151, lo_153, lo_156, lo_159, lo_161, lo_163, lo_165, lo_167, lo_169, lo_171, lo_173, lo_175, lo_177, lo_179, lo_181, lo_183, lo_184, lo_185, lo_186, lo_187, lo_188, lo_189, lo_190, lo_191, lo_192, lo_193, lo_194, lo_195, lo_196, lo_197, lo_198, lo_199, lo_200, lo_201, lo_202, lo_203, jp_nn, jp_eq, jp_e1, Classical.not_not, ji0, ji1, ji2, cs24_194, kk_194, cs24_210, kk_210, cs24_190, kk_190, cs24_199, kk_199, cs24_241, kk_241s, jl_0, jl_1, jl_2, jl_3, jl_4, jl_5, jl_6, jl_7, jl_8, jl_9, jl_10, jl_11, jl_12, jl_13, jl_14, jl_15, jl_16, jl_17, jl_18, jl_19, jl_20, jl_21, jl_22, jl_23, jl_24, jl_25, jl_26, jl_27, jl_28, jl_29, jl_30, jl_31, jl_32, jl_33, jl_34, jl_35, jl_36, jl_37, jl_38, jl_39, jl_40, jl_95, jl_96, jl_97, jl_98, jl_99, jl_100, jl_101, jl_102, jl_103, jl_104, jl_105, jl_106, jl_107, jl_108, jl_109, jl_110, jl_111, jl_112, jl_113, jl_114, jl_186, jl_1100, jr, ju, jpT, jpF, tnc, Nat.reduceEqDiff, reduceIte, and_false, false_and, not_true_eq_false, not_false_eq_true, or_false, gt_iff_lt, ge_iff_le, Int.lt_irrefl, Int.le_refl, y3, y3', ek, ei]
          intros
          refine ⟨k3 + 1, rfl, by omega, Fr.tr g5_w (Fr.arr rfl), fun q z => ?_, fun q z => ?_⟩
          · by_cases yq : q = k3
            · rw [if_pos yq, yq]
              exact d5 _ (by omega)
            · rw [if_neg yq]
              exact c5 q (by omega)
          · rw [if_neg (by omega)]
            exact d5 q z
        have y3' : (14 : Int) ≤ (k3 : Int) := by omega
        have e14_w : k3 = 14 := by omega
        subst e14_w
        have n5_w : h5 188 = h3 188 := (g5_w.row rfl (by decide)).trans (g4.row rfl (by decide))
        have n6_w : h5 189 = h4 189 := g5_w.row rfl (by decide)
        have rf5 : RF D h5 := ⟨Or.inr ⟨_, _, _, _, _, _, hs⟩, h', rd', fun q z => by rw [n5_w]; exact c3 q z, fun q z => by rw [n6_w]; exact c4 q (by omega), fun q z => c5 q z⟩
        have eM_w : h5 188 3 = (D.2.2.2.2.1.length : Int) := by
          rw [n5_w, c3 3 (by decide)]
          exact rd'.1.1.2.2.1
        have eS : h5 188 0 = (D.1.toNat : Int) := by
          have z := rd'.2.1
          rw [n5_w, c3 0 (by decide)]
          show h' 188 95 = _
          rw [z.1]
          omega
        have lM : D.2.2.2.2.1.length ≤ 6 := rd'.1.1.2.2.2.2.2
        have lS : D.1.toNat ≤ 12 := by
          have z := rd'.2.1
          omega
        simp only [qe_1, qe_3, qe_4, qe_5, qe_7, qe_72, qe_10, qe_102, qe_13, qe_14, qe_15, qe_16, qe_17, qe_18, qe_20, qe_22, qe_23, qe_21, qe_24, qe_25, qe_26, qe_27, qe_28, qe_30, qe_31, qe_32, qc_20, qc_22, qc_23, qc_21, qc_24, qc_25, qc_26, qc_27, qc_1, qc_3, qc_4, qc_7, qc_13, qc_28, qc_32, qs_1, qs_2, qs_3, qs_4, qs_5, qs_6, qs_9, qs_10, qs_11, qs_14, qs_15, qs_16, qs_27, qs_17, qs_18, qs_19, qs_20, qs_22, qs_23, qs_28, qs_25, qs_26, qs_7, qs_8, kc_1, kn_1, kc_2, kn_2, kc_3, kn_3, kc_4, kn_4, kc_5, kn_5, kc_6, kn_6, kc_7, kn_7, kc_8, kn_8, kc_9, kn_9, kc_10, kn_10, kc_11, kn_11, kc_12, kn_12, kc_13, kn_13, kc_14, kn_14, kc_15, kn_15, kc_16, kc_17, kc_18, kc_19, kc_20, kc_21, kc_22, kc_23, kc_30, kc_32, kc_40, kc_43, kc_45, kc_48, kc_52, kc_56, kc_57, kc_59, kc_60, kc_61, kc_63, kc_64, kc_72, kc_78, kc_97, kc_99, kc_122, kc_126, kc_128, kc_192, kc_200, kc_255, kc_999, kc_1000, kc_9999, kn_9999, kc_10000, kc_12345, kc_65536, kc_252645135, kc_858993459, kc_1103515245, kc_1431655765, kc_2147483647, kc_0, kc_24, kc_28, kc_37, kc_41, kc_42, kc_73, kc_91, kc_95, kc_96, kc_98, kc_100, kc_112, kc_125, kc_150, kc_162, kc_163, kc_168, kc_186, kc_190, kc_250, kc_355, kc_356, kc_404, kc_405, kc_429, kc_573, kc_1002, kc_1100, kc_1891, kc_2200, kc_4719, kc_4869, kc_4881, kc_5148, kc_19741, kc_25433, kc_320403, kc_628412, kc_629093, kc_660401, kc_679843, kc_918640, kc_979410, kc_1178088, kc_6232410, kc_24644941, kc_36238189, kc_38270444, kc_392531318, kc_425693491, kc_1342154595, kc_2147483648, kc_42328242873, kc_891704255789, kc_1722105685577, kc_1858726030364, ct_0, ct_1, ct_2, ct_3, ct_4, ct_5, cf_0, cf_1, cf_2, cf_3, cf_4, cf_5, w_ty6, w_ty7, m_sv, m_z0, m_hd, m_g0, m_gs, m_s0, m_ss, m_ap, m_an, forall_const, true_and, and_true, ne_eq, not_true_eq_false, not_false_eq_true, false_implies, true_implies, implies_true, eq_self, reduceCtorEq, Nat.reduceDiv, Nat.reduceMod, Int.reduceToNat, or_true, true_or, or_false, false_or, or_self, m_it, m_if, m_c1, m_01, m_02, m_03, m_04, m_10, m_12, m_13, m_14, m_20, m_21, m_23, m_24, m_30, m_31, m_32, m_34, m_40, m_41, m_42, m_43, Int.reduceLE, Int.reduceLT, Int.reduceGE, Int.reduceGT, Int.reduceNeg, Int.reduceAdd, Int.reduceSub, Int.reduceMul, Int.reduceEq, Int.reduceNe, Nat.reduceAdd, jun2, ro_0_0, ro_0_1, ro_0_2, ro_0_3, ro_0_4, ro_0_5, ro_0_6, ro_0_7, ro_0_8, ro_0_9, ro_0_10, ro_0_11, ro_0_12, ro_1_0, ro_1_1, ro_2_0, ro_4_0, ro_6_0, ro_6_1, ro_6_2, ro_6_3, ro_6_4, ro_6_5, ro_6_6, ro_6_7, ro_6_8, ro_8_0, ro_10_0, ro_12_0, ro_14_0, ro_16_0, ro_18_0, ro_20_0, ro_22_0, ro_22_1, ro_22_2, ro_23_0, ro_25_0, ro_27_0, ro_29_0, ro_29_1, ro_29_2, ro_29_3, ro_29_4, ro_29_5, ro_29_6, ro_29_7, ro_29_8, ro_31_0, ro_33_0, ro_35_0, ro_37_0, ro_39_0, ro_41_0, ro_43_0, ro_45_0, ro_45_1, ro_45_2, ro_46_0, ro_48_0, ro_50_0, ro_52_0, ro_52_1, ro_52_2, ro_52_3, ro_53_0, ro_55_0, ro_57_0, ro_59_0, ro_61_0, ro_61_1, ro_61_2, ro_61_3, ro_62_0, ro_64_0, ro_66_0, ro_68_0, ro_70_0, ro_70_1, ro_70_2, ro_70_3, ro_70_4, ro_70_5, ro_70_6, ro_70_7, ro_70_8, ro_70_9, ro_71_0, ro_73_0, ro_75_0, ro_77_0, ro_79_0, ro_81_0, ro_83_0, ro_85_0, ro_87_0, ro_89_0, ro_91_0, ro_91_1, ro_91_2, ro_91_3, ro_91_4, ro_91_5, ro_91_6, ro_91_7, ro_91_8, ro_91_9, ro_92_0, ro_94_0, ro_96_0, ro_98_0, ro_100_0, ro_102_0, ro_104_0, ro_106_0, ro_108_0, ro_110_0, ro_112_0, ro_112_1, ro_112_2, ro_112_3, ro_112_4, ro_112_5, ro_112_6, ro_112_7, ro_112_8, ro_112_9, ro_113_0, ro_115_0, ro_117_0, ro_119_0, ro_121_0, ro_123_0, ro_125_0, ro_127_0, ro_129_0, ro_131_0, ro_133_0, ro_133_1, ro_133_2, ro_133_3, ro_133_4, ro_133_5, ro_133_6, ro_133_7, ro_133_8, ro_133_9, ro_134_0, ro_136_0, ro_138_0, ro_140_0, ro_142_0, ro_144_0, ro_146_0, ro_148_0, ro_150_0, ro_152_0, ro_154_0, ro_155_0, ro_157_0, ro_157_1, ro_157_2, ro_157_3, ro_157_4, ro_157_5, ro_157_6, ro_157_7, ro_157_8, ro_157_9, ro_158_0, ro_160_0, ro_162_0, ro_164_0, ro_166_0, ro_168_0, ro_170_0, ro_172_0, ro_174_0, ro_176_0, ro_178_0, ro_180_0, ro_182_1, ro_182_4, ro_182_5, ro_182_6, ro_182_9, ro_182_10, ro_182_11, ro_182_13, ro_182_14, ro_182_15, ro_182_16, ro_182_17, ro_182_20, ro_182_21, ro_182_22, ro_182_23, ro_182_24, ro_182_26, ro_182_27, ro_182_28, lo_3, lo_5, lo_7, lo_9, lo_11, lo_13, lo_15, lo_17, lo_19, lo_21, lo_24, lo_26, lo_28, lo_30, lo_32, lo_34, lo_36, lo_38, lo_40, lo_42, lo_44, lo_47, lo_49, lo_51, lo_54, lo_56, lo_58, lo_60, lo_63, lo_65, lo_67, lo_69, lo_72, lo_74, lo_76, lo_78, lo_80, lo_82, lo_84, lo_86, lo_88, lo_90, lo_93, lo_95, lo_97, lo_99, lo_101, lo_103, lo_105, lo_107, lo_109, lo_111, lo_114, lo_116, lo_118, lo_120, lo_122, lo_124, lo_126, lo_128, lo_130, lo_132, lo_135, lo_137, lo_139, lo_141, lo_143, lo_145, lo_147, lo_149, lo_151, lo_153, lo_156, lo_159, lo_161, lo_163, lo_165, lo_167, lo_169, lo_171, lo_173, lo_175, lo_177, lo_179, lo_181, lo_183, lo_184, lo_185, lo_186, lo_187, lo_188, lo_189, lo_190, lo_191, lo_192, lo_193, lo_194, lo_195, lo_196, lo_197, lo_198, lo_199, lo_200, lo_201, lo_202, lo_203, jp_nn, jp_eq, jp_e1, Classical.not_not, ji0, ji1, ji2, cs24_194, kk_194, cs24_210, kk_210, cs24_190, kk_190, cs24_199, kk_199, cs24_241, kk_241s, jl_0, jl_1, jl_2, jl_3, jl_4, jl_5, jl_6, jl_7, jl_8, jl_9, jl_10, jl_11, jl_12, jl_13, jl_14, jl_15, jl_16, jl_17, jl_18, jl_19, jl_20, jl_21, jl_22, jl_23, jl_24, jl_25, jl_26, jl_27, jl_28, jl_29, jl_30, jl_31, jl_32, jl_33, jl_34, jl_35, jl_36, jl_37, jl_38, jl_39, jl_40, jl_95, jl_96, jl_97, jl_98, jl_99, jl_100, jl_101, jl_102, jl_103, jl_104, jl_105, jl_106, jl_107, jl_108, jl_109, jl_110, jl_111, jl_112, jl_113, jl_114, jl_186, jl_1100, jr, ju, jpT, jpF, tnc, Nat.reduceEqDiff, reduceIte, and_false, false_and, not_true_eq_false, not_false_eq_true, or_false, gt_iff_lt, ge_iff_le, Int.lt_irrefl, Int.le_refl, y3, y3']
        refine ⟨_, _, eM_w, lM, eS, lS, fun h6 f6_w b6 => hQ _ h6 ⟨N, _, _, _, tok, Or.inr ⟨D, hs, rfl, rf5.fr (f6_w.row rfl (by decide)) (f6_w.row rfl (by decide)) (f6_w.row rfl (by decide)), b6⟩⟩⟩
      · have lt : i < N := by
          rcases Nat.lt_or_eq_of_le hi_w with z | z
          · exact z
          · subst z
            exact absurd (by rw [← p4_w]; exact tk'.2.1) y
        rw [show sGrid (h1 184) (h1 185) (h1 186) (h 187) (k + 1) D i = eB (sLine (h1 184) (h1 185) (h1 186) (h 187) D i) fun r => eB (sSgn (h1 184) (h1 185) (h1 186) 59 r.2) fun j => sGrid (h1 184) (h1 185) (h1 186) (h 187) k r.1 j by rw [sGrid, if_neg y]] at hs
        simp only [qe_1, qe_3, qe_4, qe_5, qe_7, qe_72, qe_10, qe_102, qe_13, qe_14, qe_15, qe_16, qe_17, qe_18, qe_20, qe_22, qe_23, qe_21, qe_24, qe_25, qe_26, qe_27, qe_28, qe_30, qe_31, qe_32, qc_20, qc_22, qc_23, qc_21, qc_24, qc_25, qc_26, qc_27, qc_1, qc_3, qc_4, qc_7, qc_13, qc_28, qc_32, qs_1, qs_2, qs_3, qs_4, qs_5, qs_6, qs_9, qs_10, qs_11, qs_14, qs_15, qs_16, qs_27, qs_17, qs_18, qs_19, qs_20, qs_22, qs_23, qs_28, qs_25, qs_26, qs_7, qs_8, kc_1, kn_1, kc_2, kn_2, kc_3, kn_3, kc_4, kn_4, kc_5, kn_5, kc_6, kn_6, kc_7, kn_7, kc_8, kn_8, kc_9, kn_9, kc_10, kn_10, kc_11, kn_11, kc_12, kn_12, kc_13, kn_13, kc_14, kn_14, kc_15, kn_15, kc_16, kc_17, kc_18, kc_19, kc_20, kc_21, kc_22, kc_23, kc_30, kc_32, kc_40, kc_43, kc_45, kc_48, kc_52, kc_56, kc_57, kc_59, kc_60, kc_61, kc_63, kc_64, kc_72, kc_78, kc_97, kc_99, kc_122, kc_126, kc_128, kc_192, kc_200, kc_255, kc_999, kc_1000, kc_9999, kn_9999, kc_10000, kc_12345, kc_65536, kc_252645135, kc_858993459, kc_1103515245, kc_1431655765, kc_2147483647, kc_0, kc_24, kc_28, kc_37, kc_41, kc_42, kc_73, kc_91, kc_95, kc_96, kc_98, kc_100, kc_112, kc_125, kc_150, kc_162, kc_163, kc_168, kc_186, kc_190, kc_250, kc_355, kc_356, kc_404, kc_405, kc_429, kc_573, kc_1002, kc_1100, kc_1891, kc_2200, kc_4719, kc_4869, kc_4881, kc_5148, kc_19741, kc_25433, kc_320403, kc_628412, kc_629093, kc_660401, kc_679843, kc_918640, kc_979410, kc_1178088, kc_6232410, kc_24644941, kc_36238189, kc_38270444, kc_392531318, kc_425693491, kc_1342154595, kc_2147483648, kc_42328242873, kc_891704255789, kc_1722105685577, kc_1858726030364, ct_0, ct_1, ct_2, ct_3, ct_4, ct_5, cf_0, cf_1, cf_2, cf_3, cf_4, cf_5, w_ty6, w_ty7, m_sv, m_z0, m_hd, m_g0, m_gs, m_s0, m_ss, m_ap, m_an, forall_const, true_and, and_true, ne_eq, not_true_eq_false, not_false_eq_true, false_implies, true_implies, implies_true, eq_self, reduceCtorEq, Nat.reduceDiv, Nat.reduceMod, Int.reduceToNat, or_true, true_or, or_false, false_or, or_self, m_it, m_if, m_c1, m_01, m_02, m_03, m_04, m_10, m_12, m_13, m_14, m_20, m_21, m_23, m_24, m_30, m_31, m_32, m_34, m_40, m_41, m_42, m_43, Int.reduceLE, Int.reduceLT, Int.reduceGE, Int.reduceGT, Int.reduceNeg, Int.reduceAdd, Int.reduceSub, Int.reduceMul, Int.reduceEq, Int.reduceNe, Nat.reduceAdd, jun2, ro_0_0, ro_0_1, ro_0_2, ro_0_3, ro_0_4, ro_0_5, ro_0_6, ro_0_7, ro_0_8, ro_0_9, ro_0_10, ro_0_11, ro_0_12, ro_1_0, ro_1_1, ro_2_0, ro_4_0, ro_6_0, ro_6_1, ro_6_2, ro_6_3, ro_6_4, ro_6_5, ro_6_6, ro_6_7, ro_6_8, ro_8_0, ro_10_0, ro_12_0, ro_14_0, ro_16_0, ro_18_0, ro_20_0, ro_22_0, ro_22_1, ro_22_2, ro_23_0, ro_25_0, ro_27_0, ro_29_0, ro_29_1, ro_29_2, ro_29_3, ro_29_4, ro_29_5, ro_29_6, ro_29_7, ro_29_8, ro_31_0, ro_33_0, ro_35_0, ro_37_0, ro_39_0, ro_41_0, ro_43_0, ro_45_0, ro_45_1, ro_45_2, ro_46_0, ro_48_0, ro_50_0, ro_52_0, ro_52_1, ro_52_2, ro_52_3, ro_53_0, ro_55_0, ro_57_0, ro_59_0, ro_61_0, ro_61_1, ro_61_2, ro_61_3, ro_62_0, ro_64_0, ro_66_0, ro_68_0, ro_70_0, ro_70_1, ro_70_2, ro_70_3, ro_70_4, ro_70_5, ro_70_6, ro_70_7, ro_70_8, ro_70_9, ro_71_0, ro_73_0, ro_75_0, ro_77_0, ro_79_0, ro_81_0, ro_83_0, ro_85_0, ro_87_0, ro_89_0, ro_91_0, ro_91_1, ro_91_2, ro_91_3, ro_91_4, ro_91_5, ro_91_6, ro_91_7, ro_91_8, ro_91_9, ro_92_0, ro_94_0, ro_96_0, ro_98_0, ro_100_0, ro_102_0, ro_104_0, ro_106_0, ro_108_0, ro_110_0, ro_112_0, ro_112_1, ro_112_2, ro_112_3, ro_112_4, ro_112_5, ro_112_6, ro_112_7, ro_112_8, ro_112_9, ro_113_0, ro_115_0, ro_117_0, ro_119_0, ro_121_0, ro_123_0, ro_125_0, ro_127_0, ro_129_0, ro_131_0, ro_133_0, ro_133_1, ro_133_2, ro_133_3, ro_133_4, ro_133_5, ro_133_6, ro_133_7, ro_133_8, ro_133_9, ro_134_0, ro_136_0, ro_138_0, ro_140_0, ro_142_0, ro_144_0, ro_146_0, ro_148_0, ro_150_0, ro_152_0, ro_154_0, ro_155_0, ro_157_0, ro_157_1, ro_157_2, ro_157_3, ro_157_4, ro_157_5, ro_157_6, ro_157_7, ro_157_8, ro_157_9, ro_158_0, ro_160_0, ro_162_0, ro_164_0, ro_166_0, ro_168_0, ro_170_0, ro_172_0, ro_174_0, ro_176_0, ro_178_0, ro_180_0, ro_182_1, ro_182_4, ro_182_5, ro_182_6, ro_182_9, ro_182_10, ro_182_11, ro_182_13, ro_182_14, ro_182_15, ro_182_16, ro_182_17, ro_182_20, ro_182_21, ro_182_22, ro_182_23, ro_182_24, ro_182_26, ro_182_27, ro_182_28, lo_3, lo_5, lo_7, lo_9, lo_11, lo_13, lo_15, lo_17, lo_19, lo_21, lo_24, lo_26, lo_28, lo_30, lo_32, lo_34, lo_36, lo_38, lo_40, lo_42, lo_44, lo_47, lo_49, lo_51, lo_54, lo_56, lo_58, lo_60, lo_63, lo_65, lo_67, lo_69, lo_72, lo_74, lo_76, lo_78, lo_80, lo_82, lo_84, lo_86, lo_88, lo_90, lo_93, lo_95, lo_97, lo_99, lo_101, lo_103, lo_105, lo_107, lo_109, lo_111, lo_114, lo_116, lo_118, lo_120, lo_122, lo_124, lo_126, lo_128, lo_130, lo_132, lo_135, lo_137, lo_139, lo_141, lo_143, lo_145, lo_147, lo_149, lo_151, lo_153, lo_156, lo_159, lo_161, lo_163, lo_165, lo_167, lo_169, lo_171, lo_173, lo_175, lo_177, lo_179, lo_181, lo_183, lo_184, lo_185, lo_186, lo_187, lo_188, lo_189, lo_190, lo_191, lo_192, lo_193, lo_194, lo_195, lo_196, lo_197, lo_198, lo_199, lo_200, lo_201, lo_202, lo_203, jp_nn, jp_eq, jp_e1, Classical.not_not, ji0, ji1, ji2, cs24_194, kk_194, cs24_210, kk_210, cs24_190, kk_190, cs24_199, kk_199, cs24_241, kk_241s, jl_0, jl_1, jl_2, jl_3, jl_4, jl_5, jl_6, jl_7, jl_8, jl_9, jl_10, jl_11, jl_12, jl_13, jl_14, jl_15, jl_16, jl_17, jl_18, jl_19, jl_20, jl_21, jl_22, jl_23, jl_24, jl_25, jl_26, jl_27, jl_28, jl_29, jl_30, jl_31, jl_32, jl_33, jl_34, jl_35, jl_36, jl_37, jl_38, jl_39, jl_40, jl_95, jl_96, jl_97, jl_98, jl_99, jl_100, jl_101, jl_102, jl_103, jl_104, jl_105, jl_106, jl_107, jl_108, jl_109, jl_110, jl_111, jl_112, jl_113, jl_114, jl_186, jl_1100, jr, ju, jpT, jpF, tnc, Nat.reduceEqDiff, reduceIte, and_false, false_and, not_true_eq_false, not_false_eq_true, or_false, gt_iff_lt, ge_iff_le, Int.lt_irrefl, Int.le_refl, e8, e7_w, p4_w, y]
        intro _
        refine ⟨N, i, D, tk', st', lt, rd', fun h3 f3_w kf3 st3_w rd3 => ?_⟩
        rw [p5_w, p6_w, p7_w] at st3_w rd3
        have tk3 : TK N h3 := tk'.fr f3_w rfl rfl rfl
        have s4_w : h3 184 = h1 184 := (f3_w.row rfl (by decide)).trans p4_w
        have s5 : h3 185 = h1 185 := (f3_w.row rfl (by decide)).trans p5_w
        have s6_w : h3 186 = h1 186 := (f3_w.row rfl (by decide)).trans p6_w
        have s7 : h3 187 = h 187 := (f3_w.row rfl (by decide)).trans p7_w
        refine ⟨N, _, tk3, st3_w, fun h4 f4_w st4_w => ?_⟩
        rw [s4_w, s5, s6_w] at st4_w
        have tk4 : TK N h4 := tk3.fr f4_w rfl rfl rfl
        have u4_w : h4 184 = h1 184 := (f4_w.row rfl (by decide)).trans s4_w
        have u5 : h4 185 = h1 185 := (f4_w.row rfl (by decide)).trans s5
        have u6 : h4 186 = h1 186 := (f4_w.row rfl (by decide)).trans s6_w
        have u7 : h4 187 = h 187 := (f4_w.row rfl (by decide)).trans s7
        have kx4 : KFx h h4 := by
          obtain ⟨ka, kb, kc_w, kd, ke, kg⟩ := kx
          refine ⟨⟨fun q z => ?_, fun q z => ?_, fun q z => ?_⟩, ?_, ?_, ?_, ?_, ?_⟩
          · rw [f4_w.row (o := 188) rfl (by decide), kf3.1 q z]; exact ka.1 q z
          · rw [f4_w.row (o := 189) rfl (by decide), kf3.2.1 q z]; exact ka.2.1 q z
          · rw [f4_w.row (o := 190) rfl (by decide), kf3.2.2 q z]; exact ka.2.2 q z
          · exact (f4_w.row rfl (by decide)).trans ((f3_w.row rfl (by decide)).trans kb)
          · exact (f4_w.row rfl (by decide)).trans ((f3_w.row rfl (by decide)).trans kc_w)
          · exact (f4_w.row rfl (by decide)).trans ((f3_w.row rfl (by decide)).trans kd)
          · exact (f4_w 182 18 (fun _ => rfl) rfl).trans ((f3_w 182 18 (fun _ => rfl) rfl).trans ke)
          · exact (f4_w 182 19 (fun _ => rfl) rfl).trans ((f3_w 182 19 (fun _ => rfl) rfl).trans kg)
        refine ⟨⟨rfl, tk4, u4_w, u5, u6, u7, ?_⟩, kx4⟩
        match hz : sLine (h1 184) (h1 185) (h1 186) (h 187) D i with
        | .error f =>
          rw [hz] at st4_w hs
          exact Or.inr ⟨f, hs, st4_w⟩
        | .ok (D2, j) =>
          rw [hz] at st4_w hs
          replace st4_w : St N (sSgn (h1 184) (h1 185) (h1 186) 59 j) h4 := st4_w
          replace hs : sGrid (h1 184) (h1 185) (h1 186) (h 187) 1001 DD0 0 = eB (sSgn (h1 184) (h1 185) (h1 186) 59 j) fun j => sGrid (h1 184) (h1 185) (h1 186) (h 187) k D2 j := hs
          match hy : sSgn (h1 184) (h1 185) (h1 186) 59 j with
          | .error f =>
            rw [hy] at st4_w hs
            exact Or.inr ⟨f, hs, st4_w⟩
          | .ok j2_w =>
            rw [hy] at st4_w hs
            have rd4 : RD D2 h4 := RD.mv (rd3 D2 j hz) f4_w
            have sz2 := sz_line hz
            exact Or.inl ⟨D2, j2_w, k, hs, by omega, st4_w, rd4⟩
    · have g1 : 0 < h' 182 8 := by have := st'.1; have := st'.2; omega
      have g2 : ¬ h' 182 8 = 0 := by omega
      have g3_w : ¬ h' 182 8 ≤ 0 := by omega
      simp only [qe_1, qe_3, qe_4, qe_5, qe_7, qe_72, qe_10, qe_102, qe_13, qe_14, qe_15, qe_16, qe_17, qe_18, qe_20, qe_22, qe_23, qe_21, qe_24, qe_25, qe_26, qe_27, qe_28, qe_30, qe_31, qe_32, qc_20, qc_22, qc_23, qc_21, qc_24, qc_25, qc_26, qc_27, qc_1, qc_3, qc_4, qc_7, qc_13, qc_28, qc_32, qs_1, qs_2, qs_3, qs_4, qs_5, qs_6, qs_9, qs_10, qs_11, qs_14, qs_15, qs_16, qs_27, qs_17, qs_18, qs_19, qs_20, qs_22, qs_23, qs_28, qs_25, qs_26, qs_7, qs_8, kc_1, kn_1, kc_2, kn_2, kc_3, kn_3, kc_4, kn_4, kc_5, kn_5, kc_6, kn_6, kc_7, kn_7, kc_8, kn_8, kc_9, kn_9, kc_10, kn_10, kc_11, kn_11, kc_12, kn_12, kc_13, kn_13, kc_14, kn_14, kc_15, kn_15, kc_16, kc_17, kc_18, kc_19, kc_20, kc_21, kc_22, kc_23, kc_30, kc_32, kc_40, kc_43, kc_45, kc_48, kc_52, kc_56, kc_57, kc_59, kc_60, kc_61, kc_63, kc_64, kc_72, kc_78, kc_97, kc_99, kc_122, kc_126, kc_128, kc_192, kc_200, kc_255, kc_999, kc_1000, kc_9999, kn_9999, kc_10000, kc_12345, kc_65536, kc_252645135, kc_858993459, kc_1103515245, kc_1431655765, kc_2147483647, kc_0, kc_24, kc_28, kc_37, kc_41, kc_42, kc_73, kc_91, kc_95, kc_96, kc_98, kc_100, kc_112, kc_125, kc_150, kc_162, kc_163, kc_168, kc_186, kc_190, kc_250, kc_355, kc_356, kc_404, kc_405, kc_429, kc_573, kc_1002, kc_1100, kc_1891, kc_2200, kc_4719, kc_4869, kc_4881, kc_5148, kc_19741, kc_25433, kc_320403, kc_628412, kc_629093, kc_660401, kc_679843, kc_918640, kc_979410, kc_1178088, kc_6232410, kc_24644941, kc_36238189, kc_38270444, kc_392531318, kc_425693491, kc_1342154595, kc_2147483648, kc_42328242873, kc_891704255789, kc_1722105685577, kc_1858726030364, ct_0, ct_1, ct_2, ct_3, ct_4, ct_5, cf_0, cf_1, cf_2, cf_3, cf_4, cf_5, w_ty6, w_ty7, m_sv, m_z0, m_hd, m_g0, m_gs, m_s0, m_ss, m_ap, m_an, forall_const, true_and, and_true, ne_eq, not_true_eq_false, not_false_eq_true, false_implies, true_implies, implies_true, eq_self, reduceCtorEq, Nat.reduceDiv, Nat.reduceMod, Int.reduceToNat, or_true, true_or, or_false, false_or, or_self, m_it, m_if, m_c1, m_01, m_02, m_03, m_04, m_10, m_12, m_13, m_14, m_20, m_21, m_23, m_24, m_30, m_31, m_32, m_34, m_40, m_41, m_42, m_43, Int.reduceLE, Int.reduceLT, Int.reduceGE, Int.reduceGT, Int.reduceNeg, Int.reduceAdd, Int.reduceSub, Int.reduceMul, Int.reduceEq, Int.reduceNe, Nat.reduceAdd, jun2, ro_0_0, ro_0_1, ro_0_2, ro_0_3, ro_0_4, ro_0_5, ro_0_6, ro_0_7, ro_0_8, ro_0_9, ro_0_10, ro_0_11, ro_0_12, ro_1_0, ro_1_1, ro_2_0, ro_4_0, ro_6_0, ro_6_1, ro_6_2, ro_6_3, ro_6_4, ro_6_5, ro_6_6, ro_6_7, ro_6_8, ro_8_0, ro_10_0, ro_12_0, ro_14_0, ro_16_0, ro_18_0, ro_20_0, ro_22_0, ro_22_1, ro_22_2, ro_23_0, ro_25_0, ro_27_0, ro_29_0, ro_29_1, ro_29_2, ro_29_3, ro_29_4, ro_29_5, ro_29_6, ro_29_7, ro_29_8, ro_31_0, ro_33_0, ro_35_0, ro_37_0, ro_39_0, ro_41_0, ro_43_0, ro_45_0, ro_45_1, ro_45_2, ro_46_0, ro_48_0, ro_50_0, ro_52_0, ro_52_1, ro_52_2, ro_52_3, ro_53_0, ro_55_0, ro_57_0, ro_59_0, ro_61_0, ro_61_1, ro_61_2, ro_61_3, ro_62_0, ro_64_0, ro_66_0, ro_68_0, ro_70_0, ro_70_1, ro_70_2, ro_70_3, ro_70_4, ro_70_5, ro_70_6, ro_70_7, ro_70_8, ro_70_9, ro_71_0, ro_73_0, ro_75_0, ro_77_0, ro_79_0, ro_81_0, ro_83_0, ro_85_0, ro_87_0, ro_89_0, ro_91_0, ro_91_1, ro_91_2, ro_91_3, ro_91_4, ro_91_5, ro_91_6, ro_91_7, ro_91_8, ro_91_9, ro_92_0, ro_94_0, ro_96_0, ro_98_0, ro_100_0, ro_102_0, ro_104_0, ro_106_0, ro_108_0, ro_110_0, ro_112_0, ro_112_1, ro_112_2, ro_112_3, ro_112_4, ro_112_5, ro_112_6, ro_112_7, ro_112_8, ro_112_9, ro_113_0, ro_115_0, ro_117_0, ro_119_0, ro_121_0, ro_123_0, ro_125_0, ro_127_0, ro_129_0, ro_131_0, ro_133_0, ro_133_1, ro_133_2, ro_133_3, ro_133_4, ro_133_5, ro_133_6, ro_133_7, ro_133_8, ro_133_9, ro_134_0, ro_136_0, ro_138_0, ro_140_0, ro_142_0, ro_144_0, ro_146_0, ro_148_0, ro_150_0, ro_152_0, ro_154_0, ro_155_0, ro_157_0, ro_157_1, ro_157_2, ro_157_3, ro_157_4, ro_157_5, ro_157_6, ro_157_7, ro_157_8, ro_157_9, ro_158_0, ro_160_0, ro_162_0, ro_164_0, ro_166_0, ro_168_0, ro_170_0, ro_172_0, ro_174_0, ro_176_0, ro_178_0, ro_180_0, ro_182_1, ro_182_4, ro_182_5, ro_182_6, ro_182_9, ro_182_10, ro_182_11, ro_182_13, ro_182_14, ro_182_15, ro_182_16, ro_182_17, ro_182_20, ro_182_21, ro_182_22, ro_182_23, ro_182_24, ro_182_26, ro_182_27, ro_182_28, lo_3, lo_5, lo_7, lo_9, lo_11, lo_13, lo_15, lo_17, lo_19, lo_21, lo_24, lo_26, lo_28, lo_30, lo_32, lo_34, lo_36, lo_38, lo_40, lo_42, lo_44, lo_47, lo_49, lo_51, lo_54, lo_56, lo_58, lo_60, lo_63, lo_65, lo_67, lo_69, lo_72, lo_74, lo_76, lo_78, lo_80, lo_82, lo_84, lo_86, lo_88, lo_90, lo_93, lo_95, lo_97, lo_99, lo_101, lo_103, lo_105, lo_107, lo_109, lo_111, lo_114, lo_116, lo_118, lo_120, lo_122, lo_124, lo_126, lo_128, lo_130, lo_132, lo_135, lo_137, lo_139, lo_141, lo_143, lo_145, lo_147, lo_149, lo_151, lo_153, lo_156, lo_159, lo_161, lo_163, lo_165, lo_167, lo_169, lo_171, lo_173, lo_175, lo_177, lo_179, lo_181, lo_183, lo_184, lo_185, lo_186, lo_187, lo_188, lo_189, lo_190, lo_191, lo_192, lo_193, lo_194, lo_195, lo_196, lo_197, lo_198, lo_199, lo_200, lo_201, lo_202, lo_203, jp_nn, jp_eq, jp_e1, Classical.not_not, ji0, ji1, ji2, cs24_194, kk_194, cs24_210, kk_210, cs24_190, kk_190, cs24_199, kk_199, cs24_241, kk_241s, jl_0, jl_1, jl_2, jl_3, jl_4, jl_5, jl_6, jl_7, jl_8, jl_9, jl_10, jl_11, jl_12, jl_13, jl_14, jl_15, jl_16, jl_17, jl_18, jl_19, jl_20, jl_21, jl_22, jl_23, jl_24, jl_25, jl_26, jl_27, jl_28, jl_29, jl_30, jl_31, jl_32, jl_33, jl_34, jl_35, jl_36, jl_37, jl_38, jl_39, jl_40, jl_95, jl_96, jl_97, jl_98, jl_99, jl_100, jl_101, jl_102, jl_103, jl_104, jl_105, jl_106, jl_107, jl_108, jl_109, jl_110, jl_111, jl_112, jl_113, jl_114, jl_186, jl_1100, jr, ju, jpT, jpF, tnc, Nat.reduceEqDiff, reduceIte, and_false, false_and, not_true_eq_false, not_false_eq_true, or_false, gt_iff_lt, ge_iff_le, Int.lt_irrefl, Int.le_refl, g1, g2, g3_w]
      exact hQ _ _ ⟨N, _, _, _, tok, Or.inl ⟨f, st'.2, hs, st'.1, kx⟩⟩
  · exact hQ.elim
theorem snd_24 {xs : Nat → Int} {L K : Nat} : ∀ n, SndC CS24 (evF xs L g_ck K g_cW g_M n) := snd_all snd_23 (fun f av h Q hQ => by
  unfold CS24 at hQ
  split at hQ
  · exact Or.inr m_240s
  · exact Or.inr m_241s
  · exact Or.inr m_206s
  · exact Or.inl hQ)
end
section
/-! ===== what a work is_w told_w by, over cut_w signs; contracts: the class's work is_w read ===== -/
abbrev LX : Type := Int × Int × Int × Int
section SPW
variable (S P V W : Nat → Int)
def mkd (D : DD) (m : Int) : Int := ((D.2.2.2.2.1[m.toNat]?).map (·.2.1)).getD 0
def lastP (D : DD) (m : Int) : Int := if mkd D m = 1 then D.1 else D.1 - 1
def mostS (D : DD) (m : Int) : Int := if mkd D m = 1 then 9999 else 999
def nmM (D : DD) : List Int := D.2.2.2.2.1.map (·.1)
def sWl (what : Int) (D : DD) (i : Nat) : XZ (LX × Nat) :=
  if what = 0 then eB (sTold S P V W (nmM D) (i + 1)) fun m => eB (sNum S P V 0 (lastP D m.1) m.2) fun p => eB (sNum S P V 0 (mostS D m.1) p.2) fun v => .ok ((0, m.1, p.1, v.1), v.2)
  else if what = 1 then eB (sTold S P V W (nmM D) (i + 1)) fun m => eB (sTold S P V W D.2.2.2.1 m.2) fun s => eB (sNum S P V 0 (D.1 - 1) s.2) fun t => .ok ((1, m.1, s.1, t.1), t.2)
  else if what = 2 then eB (sNum S P V 0 (D.1 - 1) (i + 1)) fun t => eB (sNum S P V 0 9999 t.2) fun u => .ok ((2, t.1, u.1, 0), u.2)
  else .ok ((3, 0, 0, 0), i + 1)
def sWx (D : DD) (n : Nat) (i : Nat) : XZ (LX × Nat) := if wHere S V W 9 4 i < 0 then .error (er P 1 i) else if n = 30 then .error (er P 5 i) else sWl S P V W (wHere S V W 9 4 i) D i
def sWork (D : DD) : Nat → List LX → Nat → XZ (List LX)
  | 0, L, _ => .ok L
  | k + 1, L, i => if S i = 0 then .ok L else eB (sWx S P V W D L.length i) fun r => eB (sSgn S P V 59 r.2) fun j => sWork D k (L ++ [r.1]) j
def resW (D : DD) : Int := match sWork S P V W D 32 [] 0 with
  | .error f => f
  | .ok _ => 0
end SPW
/-- lines, as_w the class keeps_w them -/
def LNS (b : Nat) (L : List LX) (h : XH) : Prop := h b 4 = (L.length : Int) ∧ L.length ≤ 30 ∧ ∀ k x, L[k]? = some x → h (b + 2) k = x.1 ∧ h (b + 4) k = x.2.1 ∧ h (b + 6) k = x.2.2.1 ∧ h (b + 8) k = x.2.2.2
def FWk (h h' : XH) : Prop := ∀ o k : Nat, ¬ ((o = 2 ∧ 2 ≤ k) ∨ (o = 1 ∧ 2 ≤ k ∧ k ≤ 6) ∨ o = 63 ∨ o = 65 ∨ o = 67 ∨ o = 69 ∨ (o = 61 ∧ k = 4)) → h' o k = h o k
def sWE (what : Int) (T : TA) (D : DD) (i : Nat) : XZ (LX × Nat) := eB (sWl (tS T) (tP T) (tV T) wl what D i) fun r => eB (sSgn (tS T) (tP T) (tV T) 59 r.2) fun j => .ok (r.1, j)
def k113 : KT := fun av h Q => match av with
  | [p, m] => p = 6 ∧ ∃ (D : DD) (n : Nat), CDw 6 D h ∧ m = (n : Int) ∧ n < D.2.2.2.2.1.length ∧ Q 1 [lastP D m] h
  | _ => False
def k114 : KT := fun av h Q => match av with
  | [p, m] => p = 6 ∧ ∃ (D : DD) (n : Nat), CDw 6 D h ∧ m = (n : Int) ∧ n < D.2.2.2.2.1.length ∧ Q 1 [mostS D m] h
  | _ => False
def k116 : KT := fun av h Q => match av with
  | [o, d, a, b, c] => o = 61 ∧ ∃ L : List LX, LNS 61 L h ∧ L.length < 30 ∧ ∀ h', FWk h h' → h' 1 6 = h 1 6 → (∀ k : Nat, h' 2 k = h 2 k) → LNS 61 (L ++ [(d, a, b, c)]) h' → Q 1 [] h'
  | _ => False
def k117 : KT := fun av h Q => match av with
  | [o, p] => o = 52 ∧ p = 61 ∧ ∃ L : List LX, LNS 61 L h ∧ ∀ h', (∀ o k : Nat, ¬ (o = 54 ∨ o = 56 ∨ o = 58 ∨ o = 60 ∨ (o = 52 ∧ k = 4)) → h' o k = h o k) → LNS 52 L h' → Q 1 [] h'
  | _ => False
def k121 : KT := fun av h Q => match av with
  | [w] => Q 1 [jp (w = 9 ∨ w = 10 ∨ w = 11 ∨ w = 12)] h
  | _ => False
def WLX (what : Int) (h : XH) (Q : Nat → List Int → XH → Prop) : Prop := ∃ (T : TA) (i : Nat) (D : DD) (L : List LX), TCA T i h ∧ i < T.2.1 ∧ CDw 6 D h ∧ LNS 61 L h ∧ L.length < 30 ∧ (∀ f h', sWE what T D i = .error f → FWk h h' → h' 1 6 = f → Q 1 [0] h') ∧ (∀ x j h', sWE what T D i = .ok (x, j) → FWk h h' → h' 1 6 = h 1 6 → LNS 61 (L ++ [x]) h' → TCA T j h' → Q 1 [1] h')
def kWL (what : Int) : KT := fun av h Q => match av with
  | [o, p, l] => o = 1 ∧ p = 6 ∧ l = 61 ∧ WLX what h Q
  | _ => False
def k129 : KT := kWL 0
def k130 : KT := kWL 1
def k131 : KT := kWL 2
def k132 : KT := fun av h Q => match av with
  | [o, l] => o = 1 ∧ l = 61 ∧ WLX 3 h Q
  | _ => False
section KKF5
variable {h h1 h2 h' : XH} {Q : Nat → List Int → XH → Prop} {D : DD} {T : TA} {i j : Nat} {m d a b c w what : Int} {L : List LX}
theorem kk_113 : k113 [6, m] h Q = ∃ (D : DD) (n : Nat), CDw 6 D h ∧ m = (n : Int) ∧ n < D.2.2.2.2.1.length ∧ Q 1 [lastP D m] h := propext ⟨fun a => a.2, fun a => ⟨rfl, a⟩⟩
theorem kk_114 : k114 [6, m] h Q = ∃ (D : DD) (n : Nat), CDw 6 D h ∧ m = (n : Int) ∧ n < D.2.2.2.2.1.length ∧ Q 1 [mostS D m] h := propext ⟨fun a => a.2, fun a => ⟨rfl, a⟩⟩
theorem kk_116 : k116 [61, d, a, b, c] h Q = ∃ L : List LX, LNS 61 L h ∧ L.length < 30 ∧ ∀ h', FWk h h' → h' 1 6 = h 1 6 → (∀ k : Nat, h' 2 k = h 2 k) → LNS 61 (L ++ [(d, a, b, c)]) h' → Q 1 [] h' := propext ⟨fun a => a.2, fun a => ⟨rfl, a⟩⟩
theorem kk_117 : k117 [52, 61] h Q = ∃ L : List LX, LNS 61 L h ∧ ∀ h', (∀ o k : Nat, ¬ (o = 54 ∨ o = 56 ∨ o = 58 ∨ o = 60 ∨ (o = 52 ∧ k = 4)) → h' o k = h o k) → LNS 52 L h' → Q 1 [] h' := propext ⟨fun a => a.2.2, fun a => ⟨rfl, rfl, a⟩⟩
theorem kk_121 : k121 [w] h Q = Q 1 [jp (w = 9 ∨ w = 10 ∨ w = 11 ∨ w = 12)] h := id rfl
theorem kk_wl : kWL what [1, 6, 61] h Q = WLX what h Q := propext ⟨fun a => a.2.2.2, fun a => ⟨rfl, rfl, rfl, a⟩⟩
theorem kk_129 : k129 [1, 6, 61] h Q = WLX 0 h Q := kk_wl
theorem kk_130 : k130 [1, 6, 61] h Q = WLX 1 h Q := kk_wl
theorem kk_131 : k131 [1, 6, 61] h Q = WLX 2 h Q := kk_wl
theorem kk_132 : k132 [1, 61] h Q = WLX 3 h Q := propext ⟨fun a => a.2.2, fun a => ⟨rfl, rfl, a⟩⟩
theorem FWk.rf : FWk h h := fun _ _ _ => rfl
theorem FWk.tr (a : FWk h h1) (b : FWk h1 h2) : FWk h h2 := fun o k z => (b o k z).trans (a o k z)
theorem FRd.wk (f : FRd h h') : FWk h h' := fun o k z => f o k (fun y => z (by omega))
theorem FRo.wk (f : FRo h h') : FWk h h' := f.1.wk
theorem FT.wk (f : FT h h') : FWk h h' := f.rd.wk
theorem FWk.up {o k : Nat} {v : Int} (z : (o = 2 ∧ 2 ≤ k) ∨ (o = 1 ∧ 2 ≤ k ∧ k ≤ 6) ∨ o = 63 ∨ o = 65 ∨ o = 67 ∨ o = 69 ∨ (o = 61 ∧ k = 4)) : FWk h (j_up h o k v) := fun a b y => up_ne (fun e => y (by rw [e.1, e.2]; exact z))
theorem CDw.wk (c : CDw 6 D h) (f : FWk h h') : CDw 6 D h' := c.fr (fun o k a b => f o k (by omega))
theorem LNS.rd (l : LNS 61 L h) (f : FRd h h') : LNS 61 L h' := ⟨(f 61 4 (by omega)).trans l.1, l.2.1, fun k x z => ⟨(f _ _ (by omega)).trans (l.2.2 k x z).1, (f _ _ (by omega)).trans (l.2.2 k x z).2.1, (f _ _ (by omega)).trans (l.2.2 k x z).2.2.1, (f _ _ (by omega)).trans (l.2.2 k x z).2.2.2⟩⟩
theorem f2t (g : ∀ k : Nat, h' 2 k = h 2 k) (f : FWk h h') : ∀ o k : Nat, o = 2 ∨ o = 3 → h' o k = h o k := fun o k z => by
  rcases z with rfl | rfl
  · exact g k
  · exact f 3 k (by omega)
theorem nm_in {l : List Int} {u : Int} (z : ¬ nmAt l u = -1) : 0 ≤ nmAt l u ∧ nmAt l u < (l.length : Int) := by
  have a := lst_ge (p := fun k => decide (l[k]? = some u)) l.length
  have b := lst_lt (p := fun k => decide (l[k]? = some u)) l.length
  unfold nmAt at z ⊢
  omega
theorem nm_ng {l : List Int} {u : Int} : nmAt l u = -1 ↔ nmAt l u < 0 := by
  have a := lst_ge (p := fun k => decide (l[k]? = some u)) l.length
  unfold nmAt
  omega
end KKF5
def CS25 : CSt := fun f => match f with
  | 113 => k113
  | 114 => k114
  | 116 => k116
  | 117 => k117
  | 121 => k121
  | 129 => k129
  | 130 => k130
  | 131 => k131
  | 132 => k132
  | _ => CS24 f
theorem cs25_54 {av : List Int} {h : XH} {Q : Nat → List Int → XH → Prop} : CS25 54 av h Q = k54 av h Q := id rfl
theorem cs25_55 {av : List Int} {h : XH} {Q : Nat → List Int → XH → Prop} : CS25 55 av h Q = k55 av h Q := id rfl
theorem cs25_68 {av : List Int} {h : XH} {Q : Nat → List Int → XH → Prop} : CS25 68 av h Q = k68 av h Q := id rfl
theorem cs25_69 {av : List Int} {h : XH} {Q : Nat → List Int → XH → Prop} : CS25 69 av h Q = k69 av h Q := id rfl
theorem cs25_70 {av : List Int} {h : XH} {Q : Nat → List Int → XH → Prop} : CS25 70 av h Q = k70 av h Q := id rfl
theorem cs25_71 {av : List Int} {h : XH} {Q : Nat → List Int → XH → Prop} : CS25 71 av h Q = k71 av h Q := id rfl
theorem cs25_72 {av : List Int} {h : XH} {Q : Nat → List Int → XH → Prop} : CS25 72 av h Q = k72 av h Q := id rfl
theorem cs25_73 {av : List Int} {h : XH} {Q : Nat → List Int → XH → Prop} : CS25 73 av h Q = k73 av h Q := id rfl
theorem cs25_74 {av : List Int} {h : XH} {Q : Nat → List Int → XH → Prop} : CS25 74 av h Q = k74 av h Q := id rfl
theorem cs25_75 {av : List Int} {h : XH} {Q : Nat → List Int → XH → Prop} : CS25 75 av h Q = k75 av h Q := id rfl
theorem cs25_186 {av : List Int} {h : XH} {Q : Nat → List Int → XH → Prop} : CS25 186 av h Q = k186 av h Q := id rfl
theorem cs25_187 {av : List Int} {h : XH} {Q : Nat → List Int → XH → Prop} : CS25 187 av h Q = k187 av h Q := id rfl
theorem cs25_188 {av : List Int} {h : XH} {Q : Nat → List Int → XH → Prop} : CS25 188 av h Q = k188 av h Q := id rfl
theorem cs25_189 {av : List Int} {h : XH} {Q : Nat → List Int → XH → Prop} : CS25 189 av h Q = k189 av h Q := id rfl
theorem cs25_191 {av : List Int} {h : XH} {Q : Nat → List Int → XH → Prop} : CS25 191 av h Q = k191 av h Q := id rfl
theorem cs25_192 {av : List Int} {h : XH} {Q : Nat → List Int → XH → Prop} : CS25 192 av h Q = k192 av h Q := id rfl
theorem cs25_193 {av : List Int} {h : XH} {Q : Nat → List Int → XH → Prop} : CS25 193 av h Q = k193 av h Q := id rfl
theorem cs25_198 {av : List Int} {h : XH} {Q : Nat → List Int → XH → Prop} : CS25 198 av h Q = k198 av h Q := id rfl
theorem cs25_207 {av : List Int} {h : XH} {Q : Nat → List Int → XH → Prop} : CS25 207 av h Q = k207 av h Q := id rfl
theorem cs25_195 {av : List Int} {h : XH} {Q : Nat → List Int → XH → Prop} : CS25 195 av h Q = k195 av h Q := id rfl
theorem cs25_196 {av : List Int} {h : XH} {Q : Nat → List Int → XH → Prop} : CS25 196 av h Q = k196 av h Q := id rfl
theorem cs25_201 {av : List Int} {h : XH} {Q : Nat → List Int → XH → Prop} : CS25 201 av h Q = k201 av h Q := id rfl
theorem cs25_203 {av : List Int} {h : XH} {Q : Nat → List Int → XH → Prop} : CS25 203 av h Q = k203 av h Q := id rfl
theorem cs25_204 {av : List Int} {h : XH} {Q : Nat → List Int → XH → Prop} : CS25 204 av h Q = k204 av h Q := id rfl
theorem cs25_194 {av : List Int} {h : XH} {Q : Nat → List Int → XH → Prop} : CS25 194 av h Q = k194 av h Q := id rfl
theorem cs25_197 {av : List Int} {h : XH} {Q : Nat → List Int → XH → Prop} : CS25 197 av h Q = k197 av h Q := id rfl
theorem cs25_200 {av : List Int} {h : XH} {Q : Nat → List Int → XH → Prop} : CS25 200 av h Q = k200 av h Q := id rfl
theorem cs25_202 {av : List Int} {h : XH} {Q : Nat → List Int → XH → Prop} : CS25 202 av h Q = k202 av h Q := id rfl
theorem cs25_205 {av : List Int} {h : XH} {Q : Nat → List Int → XH → Prop} : CS25 205 av h Q = k205 av h Q := id rfl
theorem cs25_208 {av : List Int} {h : XH} {Q : Nat → List Int → XH → Prop} : CS25 208 av h Q = k208 av h Q := id rfl
theorem cs25_209 {av : List Int} {h : XH} {Q : Nat → List Int → XH → Prop} : CS25 209 av h Q = k209 av h Q := id rfl
theorem cs25_211 {av : List Int} {h : XH} {Q : Nat → List Int → XH → Prop} : CS25 211 av h Q = k211 av h Q := id rfl
theorem cs25_216 {av : List Int} {h : XH} {Q : Nat → List Int → XH → Prop} : CS25 216 av h Q = k216 av h Q := id rfl
theorem cs25_217 {av : List Int} {h : XH} {Q : Nat → List Int → XH → Prop} : CS25 217 av h Q = k217 av h Q := id rfl
theorem cs25_218 {av : List Int} {h : XH} {Q : Nat → List Int → XH → Prop} : CS25 218 av h Q = k218 av h Q := id rfl
theorem cs25_219 {av : List Int} {h : XH} {Q : Nat → List Int → XH → Prop} : CS25 219 av h Q = k219 av h Q := id rfl
theorem cs25_220 {av : List Int} {h : XH} {Q : Nat → List Int → XH → Prop} : CS25 220 av h Q = k220 av h Q := id rfl
theorem cs25_221 {av : List Int} {h : XH} {Q : Nat → List Int → XH → Prop} : CS25 221 av h Q = k221 av h Q := id rfl
theorem cs25_210 {av : List Int} {h : XH} {Q : Nat → List Int → XH → Prop} : CS25 210 av h Q = k210 av h Q := id rfl
theorem cs25_212 {av : List Int} {h : XH} {Q : Nat → List Int → XH → Prop} : CS25 212 av h Q = k212 av h Q := id rfl
theorem cs25_213 {av : List Int} {h : XH} {Q : Nat → List Int → XH → Prop} : CS25 213 av h Q = k213 av h Q := id rfl
theorem cs25_190 {av : List Int} {h : XH} {Q : Nat → List Int → XH → Prop} : CS25 190 av h Q = k190 av h Q := id rfl
theorem cs25_199 {av : List Int} {h : XH} {Q : Nat → List Int → XH → Prop} : CS25 199 av h Q = k199 av h Q := id rfl
theorem cs25_225 {av : List Int} {h : XH} {Q : Nat → List Int → XH → Prop} : CS25 225 av h Q = k225 av h Q := id rfl
theorem cs25_226 {av : List Int} {h : XH} {Q : Nat → List Int → XH → Prop} : CS25 226 av h Q = k226 av h Q := id rfl
theorem cs25_227 {av : List Int} {h : XH} {Q : Nat → List Int → XH → Prop} : CS25 227 av h Q = k227 av h Q := id rfl
theorem cs25_228 {av : List Int} {h : XH} {Q : Nat → List Int → XH → Prop} : CS25 228 av h Q = k228 av h Q := id rfl
theorem cs25_333 {av : List Int} {h : XH} {Q : Nat → List Int → XH → Prop} : CS25 333 av h Q = k333 av h Q := id rfl
theorem cs25_67 {av : List Int} {h : XH} {Q : Nat → List Int → XH → Prop} : CS25 67 av h Q = k67 av h Q := id rfl
theorem cs25_65 {av : List Int} {h : XH} {Q : Nat → List Int → XH → Prop} : CS25 65 av h Q = k65 av h Q := id rfl
theorem cs25_66 {av : List Int} {h : XH} {Q : Nat → List Int → XH → Prop} : CS25 66 av h Q = k66 av h Q := id rfl
theorem cs25_64 {av : List Int} {h : XH} {Q : Nat → List Int → XH → Prop} : CS25 64 av h Q = k64 av h Q := id rfl
theorem cs25_63 {av : List Int} {h : XH} {Q : Nat → List Int → XH → Prop} : CS25 63 av h Q = k63 av h Q := id rfl
theorem cs25_77 {av : List Int} {h : XH} {Q : Nat → List Int → XH → Prop} : CS25 77 av h Q = k77 av h Q := id rfl
theorem cs25_76 {av : List Int} {h : XH} {Q : Nat → List Int → XH → Prop} : CS25 76 av h Q = k76 av h Q := id rfl
theorem cs25_133 {av : List Int} {h : XH} {Q : Nat → List Int → XH → Prop} : CS25 133 av h Q = k133 av h Q := id rfl
theorem cs25_134 {av : List Int} {h : XH} {Q : Nat → List Int → XH → Prop} : CS25 134 av h Q = k134 av h Q := id rfl
theorem cs25_135 {av : List Int} {h : XH} {Q : Nat → List Int → XH → Prop} : CS25 135 av h Q = k135 av h Q := id rfl
theorem cs25_136 {av : List Int} {h : XH} {Q : Nat → List Int → XH → Prop} : CS25 136 av h Q = k136 av h Q := id rfl
theorem cs25_138 {av : List Int} {h : XH} {Q : Nat → List Int → XH → Prop} : CS25 138 av h Q = k138 av h Q := id rfl
theorem cs25_139 {av : List Int} {h : XH} {Q : Nat → List Int → XH → Prop} : CS25 139 av h Q = k139 av h Q := id rfl
theorem cs25_105 {av : List Int} {h : XH} {Q : Nat → List Int → XH → Prop} : CS25 105 av h Q = k105 av h Q := id rfl
theorem cs25_102 {av : List Int} {h : XH} {Q : Nat → List Int → XH → Prop} : CS25 102 av h Q = k102 av h Q := id rfl
theorem cs25_103 {av : List Int} {h : XH} {Q : Nat → List Int → XH → Prop} : CS25 103 av h Q = k103 av h Q := id rfl
theorem cs25_104 {av : List Int} {h : XH} {Q : Nat → List Int → XH → Prop} : CS25 104 av h Q = k104 av h Q := id rfl
theorem cs25_106 {av : List Int} {h : XH} {Q : Nat → List Int → XH → Prop} : CS25 106 av h Q = k106 av h Q := id rfl
theorem cs25_140 {av : List Int} {h : XH} {Q : Nat → List Int → XH → Prop} : CS25 140 av h Q = k140 av h Q := id rfl
theorem cs25_137 {av : List Int} {h : XH} {Q : Nat → List Int → XH → Prop} : CS25 137 av h Q = k137 av h Q := id rfl
theorem cs25_127 {av : List Int} {h : XH} {Q : Nat → List Int → XH → Prop} : CS25 127 av h Q = k127 av h Q := id rfl
theorem cs25_56 {av : List Int} {h : XH} {Q : Nat → List Int → XH → Prop} : CS25 56 av h Q = k56 av h Q := id rfl
theorem cs25_57 {av : List Int} {h : XH} {Q : Nat → List Int → XH → Prop} : CS25 57 av h Q = k57 av h Q := id rfl
theorem cs25_79 {av : List Int} {h : XH} {Q : Nat → List Int → XH → Prop} : CS25 79 av h Q = k79 av h Q := id rfl
theorem cs25_101 {av : List Int} {h : XH} {Q : Nat → List Int → XH → Prop} : CS25 101 av h Q = k101 av h Q := id rfl
theorem cs25_96 {av : List Int} {h : XH} {Q : Nat → List Int → XH → Prop} : CS25 96 av h Q = k96 av h Q := id rfl
theorem cs25_99 {av : List Int} {h : XH} {Q : Nat → List Int → XH → Prop} : CS25 99 av h Q = k99c av h Q := id rfl
theorem cs25_100 {av : List Int} {h : XH} {Q : Nat → List Int → XH → Prop} : CS25 100 av h Q = k100 av h Q := id rfl
theorem cs25_98 {av : List Int} {h : XH} {Q : Nat → List Int → XH → Prop} : CS25 98 av h Q = k98 av h Q := id rfl
theorem cs25_122 {av : List Int} {h : XH} {Q : Nat → List Int → XH → Prop} : CS25 122 av h Q = k122 av h Q := id rfl
theorem cs25_123 {av : List Int} {h : XH} {Q : Nat → List Int → XH → Prop} : CS25 123 av h Q = k123 av h Q := id rfl
theorem cs25_124 {av : List Int} {h : XH} {Q : Nat → List Int → XH → Prop} : CS25 124 av h Q = k124 av h Q := id rfl
theorem cs25_125 {av : List Int} {h : XH} {Q : Nat → List Int → XH → Prop} : CS25 125 av h Q = k125 av h Q := id rfl
theorem cs25_126 {av : List Int} {h : XH} {Q : Nat → List Int → XH → Prop} : CS25 126 av h Q = k126 av h Q := id rfl
theorem cs25_84 {av : List Int} {h : XH} {Q : Nat → List Int → XH → Prop} : CS25 84 av h Q = k84 av h Q := id rfl
theorem cs25_82 {av : List Int} {h : XH} {Q : Nat → List Int → XH → Prop} : CS25 82 av h Q = k82 av h Q := id rfl
theorem cs25_83 {av : List Int} {h : XH} {Q : Nat → List Int → XH → Prop} : CS25 83 av h Q = k83 av h Q := id rfl
theorem cs25_85 {av : List Int} {h : XH} {Q : Nat → List Int → XH → Prop} : CS25 85 av h Q = k85 av h Q := id rfl
theorem cs25_89 {av : List Int} {h : XH} {Q : Nat → List Int → XH → Prop} : CS25 89 av h Q = k89 av h Q := id rfl
theorem cs25_90 {av : List Int} {h : XH} {Q : Nat → List Int → XH → Prop} : CS25 90 av h Q = k90 av h Q := id rfl
theorem cs25_91 {av : List Int} {h : XH} {Q : Nat → List Int → XH → Prop} : CS25 91 av h Q = k91 av h Q := id rfl
theorem cs25_88 {av : List Int} {h : XH} {Q : Nat → List Int → XH → Prop} : CS25 88 av h Q = k88 av h Q := id rfl
theorem cs25_86 {av : List Int} {h : XH} {Q : Nat → List Int → XH → Prop} : CS25 86 av h Q = k86 av h Q := id rfl
theorem cs25_87 {av : List Int} {h : XH} {Q : Nat → List Int → XH → Prop} : CS25 87 av h Q = k87 av h Q := id rfl
theorem cs25_81 {av : List Int} {h : XH} {Q : Nat → List Int → XH → Prop} : CS25 81 av h Q = k81 av h Q := id rfl
theorem cs25_128 {av : List Int} {h : XH} {Q : Nat → List Int → XH → Prop} : CS25 128 av h Q = k128 av h Q := id rfl
theorem cs25_119 {av : List Int} {h : XH} {Q : Nat → List Int → XH → Prop} : CS25 119 av h Q = k119 av h Q := id rfl
theorem cs25_58 {av : List Int} {h : XH} {Q : Nat → List Int → XH → Prop} : CS25 58 av h Q = k58 av h Q := id rfl
theorem cs25_80 {av : List Int} {h : XH} {Q : Nat → List Int → XH → Prop} : CS25 80 av h Q = k80 av h Q := id rfl
theorem cs25_97 {av : List Int} {h : XH} {Q : Nat → List Int → XH → Prop} : CS25 97 av h Q = k97s av h Q := id rfl
theorem cs25_156 {av : List Int} {h : XH} {Q : Nat → List Int → XH → Prop} : CS25 156 av h Q = k156 av h Q := id rfl
theorem cs25_142 {av : List Int} {h : XH} {Q : Nat → List Int → XH → Prop} : CS25 142 av h Q = k142 av h Q := id rfl
theorem cs25_3 {av : List Int} {h : XH} {Q : Nat → List Int → XH → Prop} : CS25 3 av h Q = k3s av h Q := id rfl
theorem cs25_61 {av : List Int} {h : XH} {Q : Nat → List Int → XH → Prop} : CS25 61 av h Q = k61z av h Q := id rfl
theorem cs25_2 {av : List Int} {h : XH} {Q : Nat → List Int → XH → Prop} : CS25 2 av h Q = k2s av h Q := id rfl
theorem cs25_240 {av : List Int} {h : XH} {Q : Nat → List Int → XH → Prop} : CS25 240 av h Q = k240s av h Q := id rfl
theorem cs25_241 {av : List Int} {h : XH} {Q : Nat → List Int → XH → Prop} : CS25 241 av h Q = k241s av h Q := id rfl
theorem cs25_206 {av : List Int} {h : XH} {Q : Nat → List Int → XH → Prop} : CS25 206 av h Q = k206s av h Q := id rfl
theorem cs25_113 {av : List Int} {h : XH} {Q : Nat → List Int → XH → Prop} : CS25 113 av h Q = k113 av h Q := id rfl
theorem cs25_114 {av : List Int} {h : XH} {Q : Nat → List Int → XH → Prop} : CS25 114 av h Q = k114 av h Q := id rfl
theorem cs25_116 {av : List Int} {h : XH} {Q : Nat → List Int → XH → Prop} : CS25 116 av h Q = k116 av h Q := id rfl
theorem cs25_117 {av : List Int} {h : XH} {Q : Nat → List Int → XH → Prop} : CS25 117 av h Q = k117 av h Q := id rfl
theorem cs25_121 {av : List Int} {h : XH} {Q : Nat → List Int → XH → Prop} : CS25 121 av h Q = k121 av h Q := id rfl
theorem cs25_129 {av : List Int} {h : XH} {Q : Nat → List Int → XH → Prop} : CS25 129 av h Q = k129 av h Q := id rfl
theorem cs25_130 {av : List Int} {h : XH} {Q : Nat → List Int → XH → Prop} : CS25 130 av h Q = k130 av h Q := id rfl
theorem cs25_131 {av : List Int} {h : XH} {Q : Nat → List Int → XH → Prop} : CS25 131 av h Q = k131 av h Q := id rfl
theorem cs25_132 {av : List Int} {h : XH} {Q : Nat → List Int → XH → Prop} : CS25 132 av h Q = k132 av h Q := id rfl
theorem m_113 : BodyOK CS25 CS25 113 := fun av h Q hQ => by
  rw [cs25_113] at hQ
  unfold k113 at hQ
  split at hQ
  · rename_i p m
    obtain ⟨rfl, D, n, cd, rfl, hn, hQ⟩ := hQ
    have l3 : D.2.2.2.2.1.length ≤ 6 := cd.1.1.2.2.2.2.2
    obtain ⟨x, hx⟩ : ∃ x, D.2.2.2.2.1[n]? = some x := ⟨_, List.getElem?_eq_getElem hn⟩
    have ek : rg h 16 (n : Int) = x.2.1 := (rg_in (o := 16) (c := 17) (n := 6) ro_16_0 lo_17 (by omega)).trans (cd.2.2.2.2.1.1 n x hx).1
    have em : mkd D (n : Int) = x.2.1 := by
      unfold mkd
      rw [show ((n : Int)).toNat = n from rfl, hx]
      rfl
    have d1_w := cd.2.1
    have e1_w : j32 (D.1 - 1) = D.1 - 1 := j32_id (by omega) (by omega)
    unfold lastP at hQ
    rw [em] at hQ
    show pS CS25 bb_113 [6, (n : Int)] h _
    unfold bb_113
    by_cases y : x.2.1 = 1
    · rw [if_pos y] at hQ
      simp only [qe_1, qe_3, qe_4, qe_5, qe_7, qe_72, qe_10, qe_102, qe_13, qe_14, qe_15, qe_16, qe_17, qe_18, qe_20, qe_22, qe_23, qe_21, qe_24, qe_25, qe_26, qe_27, qe_28, qe_30, qe_31, qe_32, qc_20, qc_22, qc_23, qc_21, qc_24, qc_25, qc_26, qc_27, qc_1, qc_3, qc_4, qc_7, qc_13, qc_28, qc_32, qs_1, qs_2, qs_3, qs_4, qs_5, qs_6, qs_9, qs_10, qs_11, qs_14, qs_15, qs_16, qs_27, qs_17, qs_18, qs_19, qs_20, qs_22, qs_23, qs_28, qs_25, qs_26, qs_7, qs_8, kc_1, kn_1, kc_2, kn_2, kc_3, kn_3, kc_4, kn_4, kc_5, kn_5, kc_6, kn_6, kc_7, kn_7, kc_8, kn_8, kc_9, kn_9, kc_10, kn_10, kc_11, kn_11, kc_12, kn_12, kc_13, kn_13, kc_14, kn_14, kc_15, kn_15, kc_16, kc_17, kc_18, kc_19, kc_20, kc_21, kc_22, kc_23, kc_30, kc_32, kc_40, kc_43, kc_45, kc_48, kc_52, kc_56, kc_57, kc_59, kc_60, kc_61, kc_63, kc_64, kc_72, kc_78, kc_97, kc_99, kc_122, kc_126, kc_128, kc_192, kc_200, kc_255, kc_999, kc_1000, kc_9999, kn_9999, kc_10000, kc_12345, kc_65536, kc_252645135, kc_858993459, kc_1103515245, kc_1431655765, kc_2147483647, kc_0, kc_24, kc_28, kc_37, kc_41, kc_42, kc_73, kc_91, kc_95, kc_96, kc_98, kc_100, kc_112, kc_125, kc_150, kc_162, kc_163, kc_168, kc_186, kc_190, kc_250, kc_355, kc_356, kc_404, kc_405, kc_429, kc_573, kc_1002, kc_1100, kc_1891, kc_2200, kc_4719, kc_4869, kc_4881, kc_5148, kc_19741, kc_25433, kc_320403, kc_628412, kc_629093, kc_660401, kc_679843, kc_918640, kc_979410, kc_1178088, kc_6232410, kc_24644941, kc_36238189, kc_38270444, kc_392531318, kc_425693491, kc_1342154595, kc_2147483648, kc_42328242873, kc_891704255789, kc_1722105685577, kc_1858726030364, ct_0, ct_1, ct_2, ct_3, ct_4, ct_5, cf_0, cf_1, cf_2, cf_3, cf_4, cf_5, w_ty6, w_ty7, m_sv, m_z0, m_hd, m_g0, m_gs, m_s0, m_ss, m_ap, m_an, forall_const, true_and, and_true, ne_eq, not_true_eq_false, not_false_eq_true, false_implies, true_implies, implies_true, eq_self, reduceCtorEq, Nat.reduceDiv, Nat.reduceMod, Int.reduceToNat, or_true, true_or, or_false, false_or, or_self, m_it, m_if, m_c1, m_01, m_02, m_03, m_04, m_10, m_12, m_13, m_14, m_20, m_21, m_23, m_24, m_30, m_31, m_32, m_34, m_40, m_41, m_42, m_43, Int.reduceLE, Int.reduceLT, Int.reduceGE, Int.reduceGT, Int.reduceNeg, Int.reduceAdd, Int.reduceSub, Int.reduceMul, Int.reduceEq, Int.reduceNe, Nat.reduceAdd, jun2, ro_0_0, ro_0_1, ro_0_2, ro_0_3, ro_0_4, ro_0_5, ro_0_6, ro_0_7, ro_0_8, ro_0_9, ro_0_10, ro_0_11, ro_0_12, ro_1_0, ro_1_1, ro_2_0, ro_4_0, ro_6_0, ro_6_1, ro_6_2, ro_6_3, ro_6_4, ro_6_5, ro_6_6, ro_6_7, ro_6_8, ro_8_0, ro_10_0, ro_12_0, ro_14_0, ro_16_0, ro_18_0, ro_20_0, ro_22_0, ro_22_1, ro_22_2, ro_23_0, ro_25_0, ro_27_0, ro_29_0, ro_29_1, ro_29_2, ro_29_3, ro_29_4, ro_29_5, ro_29_6, ro_29_7, ro_29_8, ro_31_0, ro_33_0, ro_35_0, ro_37_0, ro_39_0, ro_41_0, ro_43_0, ro_45_0, ro_45_1, ro_45_2, ro_46_0, ro_48_0, ro_50_0, ro_52_0, ro_52_1, ro_52_2, ro_52_3, ro_53_0, ro_55_0, ro_57_0, ro_59_0, ro_61_0, ro_61_1, ro_61_2, ro_61_3, ro_62_0, ro_64_0, ro_66_0, ro_68_0, ro_70_0, ro_70_1, ro_70_2, ro_70_3, ro_70_4, ro_70_5, ro_70_6, ro_70_7, ro_70_8, ro_70_9, ro_71_0, ro_73_0, ro_75_0, ro_77_0, ro_79_0, ro_81_0, ro_83_0, ro_85_0, ro_87_0, ro_89_0, ro_91_0, ro_91_1, ro_91_2, ro_91_3, ro_91_4, ro_91_5, ro_91_6, ro_91_7, ro_91_8, ro_91_9, ro_92_0, ro_94_0, ro_96_0, ro_98_0, ro_100_0, ro_102_0, ro_104_0, ro_106_0, ro_108_0, ro_110_0, ro_112_0, ro_112_1, ro_112_2, ro_112_3, ro_112_4, ro_112_5, ro_112_6, ro_112_7, ro_112_8, ro_112_9, ro_113_0, ro_115_0, ro_117_0, ro_119_0, ro_121_0, ro_123_0, ro_125_0, ro_127_0, ro_129_0, ro_131_0, ro_133_0, ro_133_1, ro_133_2, ro_133_3, ro_133_4, ro_133_5, ro_133_6, ro_133_7, ro_133_8, ro_133_9, ro_134_0, ro_136_0, ro_138_0, ro_140_0, ro_142_0, ro_144_0, ro_146_0, ro_148_0, ro_150_0, ro_152_0, ro_154_0, ro_155_0, ro_157_0, ro_157_1, ro_157_2, ro_157_3, ro_157_4, ro_157_5, ro_157_6, ro_157_7, ro_157_8, ro_157_9, ro_158_0, ro_160_0, ro_162_0, ro_164_0, ro_166_0, ro_168_0, ro_170_0, ro_172_0, ro_174_0, ro_176_0, ro_178_0, ro_180_0, ro_182_1, ro_182_4, ro_182_5, ro_182_6, ro_182_9, ro_182_10, ro_182_11, ro_182_13, ro_182_14, ro_182_15, ro_182_16, ro_182_17, ro_182_20, ro_182_21, ro_182_22, ro_182_23, ro_182_24, ro_182_26, ro_182_27, ro_182_28, lo_3, lo_5, lo_7, lo_9, lo_11, lo_13, lo_15, lo_17, lo_19, lo_21, lo_24, lo_26, lo_28, lo_30, lo_32, lo_34, lo_36, lo_38, lo_40, lo_42, lo_44, lo_47, lo_49, lo_51, lo_54, lo_56, lo_58, lo_60, lo_63, lo_65, lo_67, lo_69, lo_72, lo_74, lo_76, lo_78, lo_80, lo_82, lo_84, lo_86, lo_88, lo_90, lo_93, lo_95, lo_97, lo_99, lo_101, lo_103, lo_105, lo_107, lo_109, lo_111, lo_114, lo_116, lo_118, lo_120, lo_122, lo_124, lo_126, lo_128, lo_130, lo_132, lo_135, lo_137, lo_139, lo_141, lo_143, lo_145, lo_147, lo_149, lo_151, lo_153, lo_156, lo_159, lo_161, lo_163, lo_165, lo_167, lo_169, lo_171, lo_173, lo_175, lo_177, lo_179, lo_181, lo_183, lo_184, lo_185, lo_186, lo_187, lo_188, lo_189, lo_190, lo_191, lo_192, lo_193, lo_194, lo_195, lo_196, lo_197, lo_198, lo_199, lo_200, lo_201, lo_202, lo_203, jp_nn, jp_eq, jp_e1, Classical.not_not, ji0, ji1, ji2, cs25_54, kk_54, jl_0, jl_1, jl_2, jl_3, jl_4, jl_5, jl_6, jl_7, jl_8, jl_9, jl_10, jl_11, jl_12, jl_13, jl_14, jl_15, jl_16, jl_17, jl_18, jl_19, jl_20, jl_21, jl_22, jl_23, jl_24, jl_25, jl_26, jl_27, jl_28, jl_29, jl_30, jl_31, jl_32, jl_33, jl_34, jl_35, jl_36, jl_37, jl_38, jl_39, jl_40, jl_95, jl_96, jl_97, jl_98, jl_99, jl_100, jl_101, jl_102, jl_103, jl_104, jl_105, jl_106, jl_107, jl_108, jl_109, jl_110, jl_111, jl_112, jl_113, jl_114, jl_186, jl_1100, jr, ju, jpT, jpF, tnc, Nat.reduceEqDiff, reduceIte, and_false, false_and, not_true_eq_false, not_false_eq_true, or_false, gt_iff_lt, ge_iff_le, Int.lt_irrefl, Int.le_refl, ek, y, d1_w.1]
      exact hQ
    · rw [if_neg y] at hQ
      simp only [qe_1, qe_3, qe_4, qe_5, qe_7, qe_72, qe_10, qe_102, qe_13, qe_14, qe_15, qe_16, qe_17, qe_18, qe_20, qe_22, qe_23, qe_21, qe_24, qe_25, qe_26, qe_27, qe_28, qe_30, qe_31, qe_32, qc_20, qc_22, qc_23, qc_21, qc_24, qc_25, qc_26, qc_27, qc_1, qc_3, qc_4, qc_7, qc_13, qc_28, qc_32, qs_1, qs_2, qs_3, qs_4, qs_5, qs_6, qs_9, qs_10, qs_11, qs_14, qs_15, qs_16, qs_27, qs_17, qs_18, qs_19, qs_20, qs_22, qs_23, qs_28, qs_25, qs_26, qs_7, qs_8, kc_1, kn_1, kc_2, kn_2, kc_3, kn_3, kc_4, kn_4, kc_5, kn_5, kc_6, kn_6, kc_7, kn_7, kc_8, kn_8, kc_9, kn_9, kc_10, kn_10, kc_11, kn_11, kc_12, kn_12, kc_13, kn_13, kc_14, kn_14, kc_15, kn_15, kc_16, kc_17, kc_18, kc_19, kc_20, kc_21, kc_22, kc_23, kc_30, kc_32, kc_40, kc_43, kc_45, kc_48, kc_52, kc_56, kc_57, kc_59, kc_60, kc_61, kc_63, kc_64, kc_72, kc_78, kc_97, kc_99, kc_122, kc_126, kc_128, kc_192, kc_200, kc_255, kc_999, kc_1000, kc_9999, kn_9999, kc_10000, kc_12345, kc_65536, kc_252645135, kc_858993459, kc_1103515245, kc_1431655765, kc_2147483647, kc_0, kc_24, kc_28, kc_37, kc_41, kc_42, kc_73, kc_91, kc_95, kc_96, kc_98, kc_100, kc_112, kc_125, kc_150, kc_162, kc_163, kc_168, kc_186, kc_190, kc_250, kc_355, kc_356, kc_404, kc_405, kc_429, kc_573, kc_1002, kc_1100, kc_1891, kc_2200, kc_4719, kc_4869, kc_4881, kc_5148, kc_19741, kc_25433, kc_320403, kc_628412, kc_629093, kc_660401, kc_679843, kc_918640, kc_979410, kc_1178088, kc_6232410, kc_24644941, kc_36238189, kc_38270444, kc_392531318, kc_425693491, kc_1342154595, kc_2147483648, kc_42328242873, kc_891704255789, kc_1722105685577, kc_1858726030364, ct_0, ct_1, ct_2, ct_3, ct_4, ct_5, cf_0, cf_1, cf_2, cf_3, cf_4, cf_5, w_ty6, w_ty7, m_sv, m_z0, m_hd, m_g0, m_gs, m_s0, m_ss, m_ap, m_an, forall_const, true_and, and_true, ne_eq, not_true_eq_false, not_false_eq_true, false_implies, true_implies, implies_true, eq_self, reduceCtorEq, Nat.reduceDiv, Nat.reduceMod, Int.reduceToNat, or_true, true_or, or_false, false_or, or_self, m_it, m_if, m_c1, m_01, m_02, m_03, m_04, m_10, m_12, m_13, m_14, m_20, m_21, m_23, m_24, m_30, m_31, m_32, m_34, m_40, m_41, m_42, m_43, Int.reduceLE, Int.reduceLT, Int.reduceGE, Int.reduceGT, Int.reduceNeg, Int.reduceAdd, Int.reduceSub, Int.reduceMul, Int.reduceEq, Int.reduceNe, Nat.reduceAdd, jun2, ro_0_0, ro_0_1, ro_0_2, ro_0_3, ro_0_4, ro_0_5, ro_0_6, ro_0_7, ro_0_8, ro_0_9, ro_0_10, ro_0_11, ro_0_12, ro_1_0, ro_1_1, ro_2_0, ro_4_0, ro_6_0, ro_6_1, ro_6_2, ro_6_3, ro_6_4, ro_6_5, ro_6_6, ro_6_7, ro_6_8, ro_8_0, ro_10_0, ro_12_0, ro_14_0, ro_16_0, ro_18_0, ro_20_0, ro_22_0, ro_22_1, ro_22_2, ro_23_0, ro_25_0, ro_27_0, ro_29_0, ro_29_1, ro_29_2, ro_29_3, ro_29_4, ro_29_5, ro_29_6, ro_29_7, ro_29_8, ro_31_0, ro_33_0, ro_35_0, ro_37_0, ro_39_0, ro_41_0, ro_43_0, ro_45_0, ro_45_1, ro_45_2, ro_46_0, ro_48_0, ro_50_0, ro_52_0, ro_52_1, ro_52_2, ro_52_3, ro_53_0, ro_55_0, ro_57_0, ro_59_0, ro_61_0, ro_61_1, ro_61_2, ro_61_3, ro_62_0, ro_64_0, ro_66_0, ro_68_0, ro_70_0, ro_70_1, ro_70_2, ro_70_3, ro_70_4, ro_70_5, ro_70_6, ro_70_7, ro_70_8, ro_70_9, ro_71_0, ro_73_0, ro_75_0, ro_77_0, ro_79_0, ro_81_0, ro_83_0, ro_85_0, ro_87_0, ro_89_0, ro_91_0, ro_91_1, ro_91_2, ro_91_3, ro_91_4, ro_91_5, ro_91_6, ro_91_7, ro_91_8, ro_91_9, ro_92_0, ro_94_0, ro_96_0, ro_98_0, ro_100_0, ro_102_0, ro_104_0, ro_106_0, ro_108_0, ro_110_0, ro_112_0, ro_112_1, ro_112_2, ro_112_3, ro_112_4, ro_112_5, ro_112_6, ro_112_7, ro_112_8, ro_112_9, ro_113_0, ro_115_0, ro_117_0, ro_119_0, ro_121_0, ro_123_0, ro_125_0, ro_127_0, ro_129_0, ro_131_0, ro_133_0, ro_133_1, ro_133_2, ro_133_3, ro_133_4, ro_133_5, ro_133_6, ro_133_7, ro_133_8, ro_133_9, ro_134_0, ro_136_0, ro_138_0, ro_140_0, ro_142_0, ro_144_0, ro_146_0, ro_148_0, ro_150_0, ro_152_0, ro_154_0, ro_155_0, ro_157_0, ro_157_1, ro_157_2, ro_157_3, ro_157_4, ro_157_5, ro_157_6, ro_157_7, ro_157_8, ro_157_9, ro_158_0, ro_160_0, ro_162_0, ro_164_0, ro_166_0, ro_168_0, ro_170_0, ro_172_0, ro_174_0, ro_176_0, ro_178_0, ro_180_0, ro_182_1, ro_182_4, ro_182_5, ro_182_6, ro_182_9, ro_182_10, ro_182_11, ro_182_13, ro_182_14, ro_182_15, ro_182_16, ro_182_17, ro_182_20, ro_182_21, ro_182_22, ro_182_23, ro_182_24, ro_182_26, ro_182_27, ro_182_28, lo_3, lo_5, lo_7, lo_9, lo_11, lo_13, lo_15, lo_17, lo_19, lo_21, lo_24, lo_26, lo_28, lo_30, lo_32, lo_34, lo_36, lo_38, lo_40, lo_42, lo_44, lo_47, lo_49, lo_51, lo_54, lo_56, lo_58, lo_60, lo_63, lo_65, lo_67, lo_69, lo_72, lo_74, lo_76, lo_78, lo_80, lo_82, lo_84, lo_86, lo_88, lo_90, lo_93, lo_95, lo_97, lo_99, lo_101, lo_103, lo_105, lo_107, lo_109, lo_111, lo_114, lo_116, lo_118, lo_120, lo_122, lo_124, lo_126, lo_128, lo_130, lo_132, lo_135, lo_137, lo_139, lo_141, lo_143, lo_145, lo_147, lo_149, lo_151, lo_153, lo_156, lo_159, lo_161, lo_163, lo_165, lo_167, lo_169, lo_171, lo_173, lo_175, lo_177, lo_179, lo_181, lo_183, lo_184, lo_185, lo_186, lo_187, lo_188, lo_189, lo_190, lo_191, lo_192, lo_193, lo_194, lo_195, lo_196, lo_197, lo_198, lo_199, lo_200, lo_201, lo_202, lo_203, jp_nn, jp_eq, jp_e1, Classical.not_not, ji0, ji1, ji2, cs25_54, kk_54, jl_0, jl_1, jl_2, jl_3, jl_4, jl_5, jl_6, jl_7, jl_8, jl_9, jl_10, jl_11, jl_12, jl_13, jl_14, jl_15, jl_16, jl_17, jl_18, jl_19, jl_20, jl_21, jl_22, jl_23, jl_24, jl_25, jl_26, jl_27, jl_28, jl_29, jl_30, jl_31, jl_32, jl_33, jl_34, jl_35, jl_36, jl_37, jl_38, jl_39, jl_40, jl_95, jl_96, jl_97, jl_98, jl_99, jl_100, jl_101, jl_102, jl_103, jl_104, jl_105, jl_106, jl_107, jl_108, jl_109, jl_110, jl_111, jl_112, jl_113, jl_114, jl_186, jl_1100, jr, ju, jpT, jpF, tnc, Nat.reduceEqDiff, reduceIte, and_false, false_and, not_true_eq_false, not_false_eq_true, or_false, gt_iff_lt, ge_iff_le, Int.lt_irrefl, Int.le_refl, ek, y, d1_w.1, e1_w]
      exact hQ
  · exact hQ.elim
theorem m_114 : BodyOK CS25 CS25 114 := fun av h Q hQ => by
  rw [cs25_114] at hQ
  unfold k114 at hQ
  split at hQ
  · rename_i p m
    obtain ⟨rfl, D, n, cd, rfl, hn, hQ⟩ := hQ
    have l3 : D.2.2.2.2.1.length ≤ 6 := cd.1.1.2.2.2.2.2
    obtain ⟨x, hx⟩ : ∃ x, D.2.2.2.2.1[n]? = some x := ⟨_, List.getElem?_eq_getElem hn⟩
    have ek : rg h 16 (n : Int) = x.2.1 := (rg_in (o := 16) (c := 17) (n := 6) ro_16_0 lo_17 (by omega)).trans (cd.2.2.2.2.1.1 n x hx).1
    have em : mkd D (n : Int) = x.2.1 := by
      unfold mkd
      rw [show ((n : Int)).toNat = n from rfl, hx]
      rfl
    unfold mostS at hQ
    rw [em] at hQ
    show pS CS25 bb_114 [6, (n : Int)] h _
    unfold bb_114
    by_cases y : x.2.1 = 1
    · rw [if_pos y] at hQ
      simp only [qe_1, qe_3, qe_4, qe_5, qe_7, qe_72, qe_10, qe_102, qe_13, qe_14, qe_15, qe_16, qe_17, qe_18, qe_20, qe_22, qe_23, qe_21, qe_24, qe_25, qe_26, qe_27, qe_28, qe_30, qe_31, qe_32, qc_20, qc_22, qc_23, qc_21, qc_24, qc_25, qc_26, qc_27, qc_1, qc_3, qc_4, qc_7, qc_13, qc_28, qc_32, qs_1, qs_2, qs_3, qs_4, qs_5, qs_6, qs_9, qs_10, qs_11, qs_14, qs_15, qs_16, qs_27, qs_17, qs_18, qs_19, qs_20, qs_22, qs_23, qs_28, qs_25, qs_26, qs_7, qs_8, kc_1, kn_1, kc_2, kn_2, kc_3, kn_3, kc_4, kn_4, kc_5, kn_5, kc_6, kn_6, kc_7, kn_7, kc_8, kn_8, kc_9, kn_9, kc_10, kn_10, kc_11, kn_11, kc_12, kn_12, kc_13, kn_13, kc_14, kn_14, kc_15, kn_15, kc_16, kc_17, kc_18, kc_19, kc_20, kc_21, kc_22, kc_23, kc_30, kc_32, kc_40, kc_43, kc_45, kc_48, kc_52, kc_56, kc_57, kc_59, kc_60, kc_61, kc_63, kc_64, kc_72, kc_78, kc_97, kc_99, kc_122, kc_126, kc_128, kc_192, kc_200, kc_255, kc_999, kc_1000, kc_9999, kn_9999, kc_10000, kc_12345, kc_65536, kc_252645135, kc_858993459, kc_1103515245, kc_1431655765, kc_2147483647, kc_0, kc_24, kc_28, kc_37, kc_41, kc_42, kc_73, kc_91, kc_95, kc_96, kc_98, kc_100, kc_112, kc_125, kc_150, kc_162, kc_163, kc_168, kc_186, kc_190, kc_250, kc_355, kc_356, kc_404, kc_405, kc_429, kc_573, kc_1002, kc_1100, kc_1891, kc_2200, kc_4719, kc_4869, kc_4881, kc_5148, kc_19741, kc_25433, kc_320403, kc_628412, kc_629093, kc_660401, kc_679843, kc_918640, kc_979410, kc_1178088, kc_6232410, kc_24644941, kc_36238189, kc_38270444, kc_392531318, kc_425693491, kc_1342154595, kc_2147483648, kc_42328242873, kc_891704255789, kc_1722105685577, kc_1858726030364, ct_0, ct_1, ct_2, ct_3, ct_4, ct_5, cf_0, cf_1, cf_2, cf_3, cf_4, cf_5, w_ty6, w_ty7, m_sv, m_z0, m_hd, m_g0, m_gs, m_s0, m_ss, m_ap, m_an, forall_const, true_and, and_true, ne_eq, not_true_eq_false, not_false_eq_true, false_implies, true_implies, implies_true, eq_self, reduceCtorEq, Nat.reduceDiv, Nat.reduceMod, Int.reduceToNat, or_true, true_or, or_false, false_or, or_self, m_it, m_if, m_c1, m_01, m_02, m_03, m_04, m_10, m_12, m_13, m_14, m_20, m_21, m_23, m_24, m_30, m_31, m_32, m_34, m_40, m_41, m_42, m_43, Int.reduceLE, Int.reduceLT, Int.reduceGE, Int.reduceGT, Int.reduceNeg, Int.reduceAdd, Int.reduceSub, Int.reduceMul, Int.reduceEq, Int.reduceNe, Nat.reduceAdd, jun2, ro_0_0, ro_0_1, ro_0_2, ro_0_3, ro_0_4, ro_0_5, ro_0_6, ro_0_7, ro_0_8, ro_0_9, ro_0_10, ro_0_11, ro_0_12, ro_1_0, ro_1_1, ro_2_0, ro_4_0, ro_6_0, ro_6_1, ro_6_2, ro_6_3, ro_6_4, ro_6_5, ro_6_6, ro_6_7, ro_6_8, ro_8_0, ro_10_0, ro_12_0, ro_14_0, ro_16_0, ro_18_0, ro_20_0, ro_22_0, ro_22_1, ro_22_2, ro_23_0, ro_25_0, ro_27_0, ro_29_0, ro_29_1, ro_29_2, ro_29_3, ro_29_4, ro_29_5, ro_29_6, ro_29_7, ro_29_8, ro_31_0, ro_33_0, ro_35_0, ro_37_0, ro_39_0, ro_41_0, ro_43_0, ro_45_0, ro_45_1, ro_45_2, ro_46_0, ro_48_0, ro_50_0, ro_52_0, ro_52_1, ro_52_2, ro_52_3, ro_53_0, ro_55_0, ro_57_0, ro_59_0, ro_61_0, ro_61_1, ro_61_2, ro_61_3, ro_62_0, ro_64_0, ro_66_0, ro_68_0, ro_70_0, ro_70_1, ro_70_2, ro_70_3, ro_70_4, ro_70_5, ro_70_6, ro_70_7, ro_70_8, ro_70_9, ro_71_0, ro_73_0, ro_75_0, ro_77_0, ro_79_0, ro_81_0, ro_83_0, ro_85_0, ro_87_0, ro_89_0, ro_91_0, ro_91_1, ro_91_2, ro_91_3, ro_91_4, ro_91_5, ro_91_6, ro_91_7, ro_91_8, ro_91_9, ro_92_0, ro_94_0, ro_96_0, ro_98_0, ro_100_0, ro_102_0, ro_104_0, ro_106_0, ro_108_0, ro_110_0, ro_112_0, ro_112_1, ro_112_2, ro_112_3, ro_112_4, ro_112_5, ro_112_6, ro_112_7, ro_112_8, ro_112_9, ro_113_0, ro_115_0, ro_117_0, ro_119_0, ro_121_0, ro_123_0, ro_125_0, ro_127_0, ro_129_0, ro_131_0, ro_133_0, ro_133_1, ro_133_2, ro_133_3, ro_133_4, ro_133_5, ro_133_6, ro_133_7, ro_133_8, ro_133_9, ro_134_0, ro_136_0, ro_138_0, ro_140_0, ro_142_0, ro_144_0, ro_146_0, ro_148_0, ro_150_0, ro_152_0, ro_154_0, ro_155_0, ro_157_0, ro_157_1, ro_157_2, ro_157_3, ro_157_4, ro_157_5, ro_157_6, ro_157_7, ro_157_8, ro_157_9, ro_158_0, ro_160_0, ro_162_0, ro_164_0, ro_166_0, ro_168_0, ro_170_0, ro_172_0, ro_174_0, ro_176_0, ro_178_0, ro_180_0, ro_182_1, ro_182_4, ro_182_5, ro_182_6, ro_182_9, ro_182_10, ro_182_11, ro_182_13, ro_182_14, ro_182_15, ro_182_16, ro_182_17, ro_182_20, ro_182_21, ro_182_22, ro_182_23, ro_182_24, ro_182_26, ro_182_27, ro_182_28, lo_3, lo_5, lo_7, lo_9, lo_11, lo_13, lo_15, lo_17, lo_19, lo_21, lo_24, lo_26, lo_28, lo_30, lo_32, lo_34, lo_36, lo_38, lo_40, lo_42, lo_44, lo_47, lo_49, lo_51, lo_54, lo_56, lo_58, lo_60, lo_63, lo_65, lo_67, lo_69, lo_72, lo_74, lo_76, lo_78, lo_80, lo_82, lo_84, lo_86, lo_88, lo_90, lo_93, lo_95, lo_97, lo_99, lo_101, lo_103, lo_105, lo_107, lo_109, lo_111, lo_114, lo_116, lo_118, lo_120, lo_122, lo_124, lo_126, lo_128, lo_130, lo_132, lo_135, lo_137, lo_139, lo_141, lo_143, lo_145, lo_147, lo_149, lo_151, lo_153, lo_156, lo_159, lo_161, lo_163, lo_165, lo_167, lo_169, lo_171, lo_173, lo_175, lo_177, lo_179, lo_181, lo_183, lo_184, lo_185, lo_186, lo_187, lo_188, lo_189, lo_190, lo_191, lo_192, lo_193, lo_194, lo_195, lo_196, lo_197, lo_198, lo_199, lo_200, lo_201, lo_202, lo_203, jp_nn, jp_eq, jp_e1, Classical.not_not, ji0, ji1, ji2, cs25_54, kk_54, jl_0, jl_1, jl_2, jl_3, jl_4, jl_5, jl_6, jl_7, jl_8, jl_9, jl_10, jl_11, jl_12, jl_13, jl_14, jl_15, jl_16, jl_17, jl_18, jl_19, jl_20, jl_21, jl_22, jl_23, jl_24, jl_25, jl_26, jl_27, jl_28, jl_29, jl_30, jl_31, jl_32, jl_33, jl_34, jl_35, jl_36, jl_37, jl_38, jl_39, jl_40, jl_95, jl_96, jl_97, jl_98, jl_99, jl_100, jl_101, jl_102, jl_103, jl_104, jl_105, jl_106, jl_107, jl_108, jl_109, jl_110, jl_111, jl_112, jl_113, jl_114, jl_186, jl_1100, jr, ju, jpT, jpF, tnc, Nat.reduceEqDiff, reduceIte, and_false, false_and, not_true_eq_false, not_false_eq_true, or_false, gt_iff_lt, ge_iff_le, Int.lt_irrefl, Int.le_refl, ek, y]
      exact hQ
    · rw [if_neg y] at hQ
      simp only [qe_1, qe_3, qe_4, qe_5, qe_7, qe_72, qe_10, qe_102, qe_13, qe_14, qe_15, qe_16, qe_17, qe_18, qe_20, qe_22, qe_23, qe_21, qe_24, qe_25, qe_26, qe_27, qe_28, qe_30, qe_31, qe_32, qc_20, qc_22, qc_23, qc_21, qc_24, qc_25, qc_26, qc_27, qc_1, qc_3, qc_4, qc_7, qc_13, qc_28, qc_32, qs_1, qs_2, qs_3, qs_4, qs_5, qs_6, qs_9, qs_10, qs_11, qs_14, qs_15, qs_16, qs_27, qs_17, qs_18, qs_19, qs_20, qs_22, qs_23, qs_28, qs_25, qs_26, qs_7, qs_8, kc_1, kn_1, kc_2, kn_2, kc_3, kn_3, kc_4, kn_4, kc_5, kn_5, kc_6, kn_6, kc_7, kn_7, kc_8, kn_8, kc_9, kn_9, kc_10, kn_10, kc_11, kn_11, kc_12, kn_12, kc_13, kn_13, kc_14, kn_14, kc_15, kn_15, kc_16, kc_17, kc_18, kc_19, kc_20, kc_21, kc_22, kc_23, kc_30, kc_32, kc_40, kc_43, kc_45, kc_48, kc_52, kc_56, kc_57, kc_59, kc_60, kc_61, kc_63, kc_64, kc_72, kc_78, kc_97, kc_99, kc_122, kc_126, kc_128, kc_192, kc_200, kc_255, kc_999, kc_1000, kc_9999, kn_9999, kc_10000, kc_12345, kc_65536, kc_252645135, kc_858993459, kc_1103515245, kc_1431655765, kc_2147483647, kc_0, kc_24, kc_28, kc_37, kc_41, kc_42, kc_73, kc_91, kc_95, kc_96, kc_98, kc_100, kc_112, kc_125, kc_150, kc_162, kc_163, kc_168, kc_186, kc_190, kc_250, kc_355, kc_356, kc_404, kc_405, kc_429, kc_573, kc_1002, kc_1100, kc_1891, kc_2200, kc_4719, kc_4869, kc_4881, kc_5148, kc_19741, kc_25433, kc_320403, kc_628412, kc_629093, kc_660401, kc_679843, kc_918640, kc_979410, kc_1178088, kc_6232410, kc_24644941, kc_36238189, kc_38270444, kc_392531318, kc_425693491, kc_1342154595, kc_2147483648, kc_42328242873, kc_891704255789, kc_1722105685577, kc_1858726030364, ct_0, ct_1, ct_2, ct_3, ct_4, ct_5, cf_0, cf_1, cf_2, cf_3, cf_4, cf_5, w_ty6, w_ty7, m_sv, m_z0, m_hd, m_g0, m_gs, m_s0, m_ss, m_ap, m_an, forall_const, true_and, and_true, ne_eq, not_true_eq_false, not_false_eq_true, false_implies, true_implies, implies_true, eq_self, reduceCtorEq, Nat.reduceDiv, Nat.reduceMod, Int.reduceToNat, or_true, true_or, or_false, false_or, or_self, m_it, m_if, m_c1, m_01, m_02, m_03, m_04, m_10, m_12, m_13, m_14, m_20, m_21, m_23, m_24, m_30, m_31, m_32, m_34, m_40, m_41, m_42, m_43, Int.reduceLE, Int.reduceLT, Int.reduceGE, Int.reduceGT, Int.reduceNeg, Int.reduceAdd, Int.reduceSub, Int.reduceMul, Int.reduceEq, Int.reduceNe, Nat.reduceAdd, jun2, ro_0_0, ro_0_1, ro_0_2, ro_0_3, ro_0_4, ro_0_5, ro_0_6, ro_0_7, ro_0_8, ro_0_9, ro_0_10, ro_0_11, ro_0_12, ro_1_0, ro_1_1, ro_2_0, ro_4_0, ro_6_0, ro_6_1, ro_6_2, ro_6_3, ro_6_4, ro_6_5, ro_6_6, ro_6_7, ro_6_8, ro_8_0, ro_10_0, ro_12_0, ro_14_0, ro_16_0, ro_18_0, ro_20_0, ro_22_0, ro_22_1, ro_22_2, ro_23_0, ro_25_0, ro_27_0, ro_29_0, ro_29_1, ro_29_2, ro_29_3, ro_29_4, ro_29_5, ro_29_6, ro_29_7, ro_29_8, ro_31_0, ro_33_0, ro_35_0, ro_37_0, ro_39_0, ro_41_0, ro_43_0, ro_45_0, ro_45_1, ro_45_2, ro_46_0, ro_48_0, ro_50_0, ro_52_0, ro_52_1, ro_52_2, ro_52_3, ro_53_0, ro_55_0, ro_57_0, ro_59_0, ro_61_0, ro_61_1, ro_61_2, ro_61_3, ro_62_0, ro_64_0, ro_66_0, ro_68_0, ro_70_0, ro_70_1, ro_70_2, ro_70_3, ro_70_4, ro_70_5, ro_70_6, ro_70_7, ro_70_8, ro_70_9, ro_71_0, ro_73_0, ro_75_0, ro_77_0, ro_79_0, ro_81_0, ro_83_0, ro_85_0, ro_87_0, ro_89_0, ro_91_0, ro_91_1, ro_91_2, ro_91_3, ro_91_4, ro_91_5, ro_91_6, ro_91_7, ro_91_8, ro_91_9, ro_92_0, ro_94_0, ro_96_0, ro_98_0, ro_100_0, ro_102_0, ro_104_0, ro_106_0, ro_108_0, ro_110_0, ro_112_0, ro_112_1, ro_112_2, ro_112_3, ro_112_4, ro_112_5, ro_112_6, ro_112_7, ro_112_8, ro_112_9, ro_113_0, ro_115_0, ro_117_0, ro_119_0, ro_121_0, ro_123_0, ro_125_0, ro_127_0, ro_129_0, ro_131_0, ro_133_0, ro_133_1, ro_133_2, ro_133_3, ro_133_4, ro_133_5, ro_133_6, ro_133_7, ro_133_8, ro_133_9, ro_134_0, ro_136_0, ro_138_0, ro_140_0, ro_142_0, ro_144_0, ro_146_0, ro_148_0, ro_150_0, ro_152_0, ro_154_0, ro_155_0, ro_157_0, ro_157_1, ro_157_2, ro_157_3, ro_157_4, ro_157_5, ro_157_6, ro_157_7, ro_157_8, ro_157_9, ro_158_0, ro_160_0, ro_162_0, ro_164_0, ro_166_0, ro_168_0, ro_170_0, ro_172_0, ro_174_0, ro_176_0, ro_178_0, ro_180_0, ro_182_1, ro_182_4, ro_182_5, ro_182_6, ro_182_9, ro_182_10, ro_182_11, ro_182_13, ro_182_14, ro_182_15, ro_182_16, ro_182_17, ro_182_20, ro_182_21, ro_182_22, ro_182_23, ro_182_24, ro_182_26, ro_182_27, ro_182_28, lo_3, lo_5, lo_7, lo_9, lo_11, lo_13, lo_15, lo_17, lo_19, lo_21, lo_24, lo_26, lo_28, lo_30, lo_32, lo_34, lo_36, lo_38, lo_40, lo_42, lo_44, lo_47, lo_49, lo_51, lo_54, lo_56, lo_58, lo_60, lo_63, lo_65, lo_67, lo_69, lo_72, lo_74, lo_76, lo_78, lo_80, lo_82, lo_84, lo_86, lo_88, lo_90, lo_93, lo_95, lo_97, lo_99, lo_101, lo_103, lo_105, lo_107, lo_109, lo_111, lo_114, lo_116, lo_118, lo_120, lo_122, lo_124, lo_126, lo_128, lo_130, lo_132, lo_135, lo_137, lo_139, lo_141, lo_143, lo_145, lo_147, lo_149, lo_151, lo_153, lo_156, lo_159, lo_161, lo_163, lo_165, lo_167, lo_169, lo_171, lo_173, lo_175, lo_177, lo_179, lo_181, lo_183, lo_184, lo_185, lo_186, lo_187, lo_188, lo_189, lo_190, lo_191, lo_192, lo_193, lo_194, lo_195, lo_196, lo_197, lo_198, lo_199, lo_200, lo_201, lo_202, lo_203, jp_nn, jp_eq, jp_e1, Classical.not_not, ji0, ji1, ji2, cs25_54, kk_54, jl_0, jl_1, jl_2, jl_3, jl_4, jl_5, jl_6, jl_7, jl_8, jl_9, jl_10, jl_11, jl_12, jl_13, jl_14, jl_15, jl_16, jl_17, jl_18, jl_19, jl_20, jl_21, jl_22, jl_23, jl_24, jl_25, jl_26, jl_27, jl_28, jl_29, jl_30, jl_31, jl_32, jl_33, jl_34, jl_35, jl_36, jl_37, jl_38, jl_39, jl_40, jl_95, jl_96, jl_97, jl_98, jl_99, jl_100, jl_101, jl_102, jl_103, jl_104, jl_105, jl_106, jl_107, jl_108, jl_109, jl_110, jl_111, jl_112, jl_113, jl_114, jl_186, jl_1100, jr, ju, jpT, jpF, tnc, Nat.reduceEqDiff, reduceIte, and_false, false_and, not_true_eq_false, not_false_eq_true, or_false, gt_iff_lt, ge_iff_le, Int.lt_irrefl, Int.le_refl, ek, y]
      exact hQ
  · exact hQ.elim
theorem m_121 : BodyOK CS25 CS25 121 := fun av h Q hQ => by
  rw [cs25_121] at hQ
  unfold k121 at hQ
  split at hQ
  · rename_i w
    show pS CS25 bb_121 [w] h _
    unfold bb_121
    simp only [qe_1, qe_3, qe_4, qe_5, qe_7, qe_72, qe_10, qe_102, qe_13, qe_14, qe_15, qe_16, qe_17, qe_18, qe_20, qe_22, qe_23, qe_21, qe_24, qe_25, qe_26, qe_27, qe_28, qe_30, qe_31, qe_32, qc_20, qc_22, qc_23, qc_21, qc_24, qc_25, qc_26, qc_27, qc_1, qc_3, qc_4, qc_7, qc_13, qc_28, qc_32, qs_1, qs_2, qs_3, qs_4, qs_5, qs_6, qs_9, qs_10, qs_11, qs_14, qs_15, qs_16, qs_27, qs_17, qs_18, qs_19, qs_20, qs_22, qs_23, qs_28, qs_25, qs_26, qs_7, qs_8, kc_1, kn_1, kc_2, kn_2, kc_3, kn_3, kc_4, kn_4, kc_5, kn_5, kc_6, kn_6, kc_7, kn_7, kc_8, kn_8, kc_9, kn_9, kc_10, kn_10, kc_11, kn_11, kc_12, kn_12, kc_13, kn_13, kc_14, kn_14, kc_15, kn_15, kc_16, kc_17, kc_18, kc_19, kc_20, kc_21, kc_22, kc_23, kc_30, kc_32, kc_40, kc_43, kc_45, kc_48, kc_52, kc_56, kc_57, kc_59, kc_60, kc_61, kc_63, kc_64, kc_72, kc_78, kc_97, kc_99, kc_122, kc_126, kc_128, kc_192, kc_200, kc_255, kc_999, kc_1000, kc_9999, kn_9999, kc_10000, kc_12345, kc_65536, kc_252645135, kc_858993459, kc_1103515245, kc_1431655765, kc_2147483647, kc_0, kc_24, kc_28, kc_37, kc_41, kc_42, kc_73, kc_91, kc_95, kc_96, kc_98, kc_100, kc_112, kc_125, kc_150, kc_162, kc_163, kc_168, kc_186, kc_190, kc_250, kc_355, kc_356, kc_404, kc_405, kc_429, kc_573, kc_1002, kc_1100, kc_1891, kc_2200, kc_4719, kc_4869, kc_4881, kc_5148, kc_19741, kc_25433, kc_320403, kc_628412, kc_629093, kc_660401, kc_679843, kc_918640, kc_979410, kc_1178088, kc_6232410, kc_24644941, kc_36238189, kc_38270444, kc_392531318, kc_425693491, kc_1342154595, kc_2147483648, kc_42328242873, kc_891704255789, kc_1722105685577, kc_1858726030364, ct_0, ct_1, ct_2, ct_3, ct_4, ct_5, cf_0, cf_1, cf_2, cf_3, cf_4, cf_5, w_ty6, w_ty7, m_sv, m_z0, m_hd, m_g0, m_gs, m_s0, m_ss, m_ap, m_an, forall_const, true_and, and_true, ne_eq, not_true_eq_false, not_false_eq_true, false_implies, true_implies, implies_true, eq_self, reduceCtorEq, Nat.reduceDiv, Nat.reduceMod, Int.reduceToNat, or_true, true_or, or_false, false_or, or_self, m_it, m_if, m_c1, m_01, m_02, m_03, m_04, m_10, m_12, m_13, m_14, m_20, m_21, m_23, m_24, m_30, m_31, m_32, m_34, m_40, m_41, m_42, m_43, Int.reduceLE, Int.reduceLT, Int.reduceGE, Int.reduceGT, Int.reduceNeg, Int.reduceAdd, Int.reduceSub, Int.reduceMul, Int.reduceEq, Int.reduceNe, Nat.reduceAdd, jun2, ro_0_0, ro_0_1, ro_0_2, ro_0_3, ro_0_4, ro_0_5, ro_0_6, ro_0_7, ro_0_8, ro_0_9, ro_0_10, ro_0_11, ro_0_12, ro_1_0, ro_1_1, ro_2_0, ro_4_0, ro_6_0, ro_6_1, ro_6_2, ro_6_3, ro_6_4, ro_6_5, ro_6_6, ro_6_7, ro_6_8, ro_8_0, ro_10_0, ro_12_0, ro_14_0, ro_16_0, ro_18_0, ro_20_0, ro_22_0, ro_22_1, ro_22_2, ro_23_0, ro_25_0, ro_27_0, ro_29_0, ro_29_1, ro_29_2, ro_29_3, ro_29_4, ro_29_5, ro_29_6, ro_29_7, ro_29_8, ro_31_0, ro_33_0, ro_35_0, ro_37_0, ro_39_0, ro_41_0, ro_43_0, ro_45_0, ro_45_1, ro_45_2, ro_46_0, ro_48_0, ro_50_0, ro_52_0, ro_52_1, ro_52_2, ro_52_3, ro_53_0, ro_55_0, ro_57_0, ro_59_0, ro_61_0, ro_61_1, ro_61_2, ro_61_3, ro_62_0, ro_64_0, ro_66_0, ro_68_0, ro_70_0, ro_70_1, ro_70_2, ro_70_3, ro_70_4, ro_70_5, ro_70_6, ro_70_7, ro_70_8, ro_70_9, ro_71_0, ro_73_0, ro_75_0, ro_77_0, ro_79_0, ro_81_0, ro_83_0, ro_85_0, ro_87_0, ro_89_0, ro_91_0, ro_91_1, ro_91_2, ro_91_3, ro_91_4, ro_91_5, ro_91_6, ro_91_7, ro_91_8, ro_91_9, ro_92_0, ro_94_0, ro_96_0, ro_98_0, ro_100_0, ro_102_0, ro_104_0, ro_106_0, ro_108_0, ro_110_0, ro_112_0, ro_112_1, ro_112_2, ro_112_3, ro_112_4, ro_112_5, ro_112_6, ro_112_7, ro_112_8, ro_112_9, ro_113_0, ro_115_0, ro_117_0, ro_119_0, ro_121_0, ro_123_0, ro_125_0, ro_127_0, ro_129_0, ro_131_0, ro_133_0, ro_133_1, ro_133_2, ro_133_3, ro_133_4, ro_133_5, ro_133_6, ro_133_7, ro_133_8, ro_133_9, ro_134_0, ro_136_0, ro_138_0, ro_140_0, ro_142_0, ro_144_0, ro_146_0, ro_148_0, ro_150_0, ro_152_0, ro_154_0, ro_155_0, ro_157_0, ro_157_1, ro_157_2, ro_157_3, ro_157_4, ro_157_5, ro_157_6, ro_157_7, ro_157_8, ro_157_9, ro_158_0, ro_160_0, ro_162_0, ro_164_0, ro_166_0, ro_168_0, ro_170_0, ro_172_0, ro_174_0, ro_176_0, ro_178_0, ro_180_0, ro_182_1, ro_182_4, ro_182_5, ro_182_6, ro_182_9, ro_182_10, ro_182_11, ro_182_13, ro_182_14, ro_182_15, ro_182_16, ro_182_17, ro_182_20, ro_182_21, ro_182_22, ro_182_23, ro_182_24, ro_182_26, ro_182_27, ro_182_28, lo_3, lo_5, lo_7, lo_9, lo_11, lo_13, lo_15, lo_17, lo_19, lo_21, lo_24, lo_26, lo_28, lo_30, lo_32, lo_34, lo_36, lo_38, lo_40, lo_42, lo_44, lo_47, lo_49, lo_51, lo_54, lo_56, lo_58, lo_60, lo_63, lo_65, lo_67, lo_69, lo_72, lo_74, lo_76, lo_78, lo_80, lo_82, lo_84, lo_86, lo_88, lo_90, lo_93, lo_95, lo_97, lo_99, lo_101, lo_103, lo_105, lo_107, lo_109, lo_111, lo_114, lo_116, lo_118, lo_120, lo_122, lo_124, lo_126, lo_128, lo_130, lo_132, lo_135, lo_137, lo_139, lo_141, lo_143, lo_145, lo_147, lo_149, lo_151, lo_153, lo_156, lo_159, lo_161, lo_163, lo_165, lo_167, lo_169, lo_171, lo_173, lo_175, lo_177, lo_179, lo_181, lo_183, lo_184, lo_185, lo_186, lo_187, lo_188, lo_189, lo_190, lo_191, lo_192, lo_193, lo_194, lo_195, lo_196, lo_197, lo_198, lo_199, lo_200, lo_201, lo_202, lo_203, jp_nn, jp_eq, jp_e1, Classical.not_not, ji0, ji1, ji2, jl_0, jl_1, jl_2, jl_3, jl_4, jl_5, jl_6, jl_7, jl_8, jl_9, jl_10, jl_11, jl_12, jl_13, jl_14, jl_15, jl_16, jl_17, jl_18, jl_19, jl_20, jl_21, jl_22, jl_23, jl_24, jl_25, jl_26, jl_27, jl_28, jl_29, jl_30, jl_31, jl_32, jl_33, jl_34, jl_35, jl_36, jl_37, jl_38, jl_39, jl_40, jl_95, jl_96, jl_97, jl_98, jl_99, jl_100, jl_101, jl_102, jl_103, jl_104, jl_105, jl_106, jl_107, jl_108, jl_109, jl_110, jl_111, jl_112, jl_113, jl_114, jl_186, jl_1100, jr, ju, jpT, jpF, tnc, Nat.reduceEqDiff, reduceIte, and_false, false_and, not_true_eq_false, not_false_eq_true, or_false, gt_iff_lt, ge_iff_le, Int.lt_irrefl, Int.le_refl]
    by_cases y9 : w = 9
    · rw [jp_t (Or.inl y9)] at hQ
      simp only [y9, true_implies, not_true_eq_false, false_implies, and_true]
      exact hQ
    · by_cases y10 : w = 10
      · rw [jp_t (Or.inr (Or.inl y10))] at hQ
        subst y10
        simp only [qe_1, qe_3, qe_4, qe_5, qe_7, qe_72, qe_10, qe_102, qe_13, qe_14, qe_15, qe_16, qe_17, qe_18, qe_20, qe_22, qe_23, qe_21, qe_24, qe_25, qe_26, qe_27, qe_28, qe_30, qe_31, qe_32, qc_20, qc_22, qc_23, qc_21, qc_24, qc_25, qc_26, qc_27, qc_1, qc_3, qc_4, qc_7, qc_13, qc_28, qc_32, qs_1, qs_2, qs_3, qs_4, qs_5, qs_6, qs_9, qs_10, qs_11, qs_14, qs_15, qs_16, qs_27, qs_17, qs_18, qs_19, qs_20, qs_22, qs_23, qs_28, qs_25, qs_26, qs_7, qs_8, kc_1, kn_1, kc_2, kn_2, kc_3, kn_3, kc_4, kn_4, kc_5, kn_5, kc_6, kn_6, kc_7, kn_7, kc_8, kn_8, kc_9, kn_9, kc_10, kn_10, kc_11, kn_11, kc_12, kn_12, kc_13, kn_13, kc_14, kn_14, kc_15, kn_15, kc_16, kc_17, kc_18, kc_19, kc_20, kc_21, kc_22, kc_23, kc_30, kc_32, kc_40, kc_43, kc_45, kc_48, kc_52, kc_56, kc_57, kc_59, kc_60, kc_61, kc_63, kc_64, kc_72, kc_78, kc_97, kc_99, kc_122, kc_126, kc_128, kc_192, kc_200, kc_255, kc_999, kc_1000, kc_9999, kn_9999, kc_10000, kc_12345, kc_65536, kc_252645135, kc_858993459, kc_1103515245, kc_1431655765, kc_2147483647, kc_0, kc_24, kc_28, kc_37, kc_41, kc_42, kc_73, kc_91, kc_95, kc_96, kc_98, kc_100, kc_112, kc_125, kc_150, kc_162, kc_163, kc_168, kc_186, kc_190, kc_250, kc_355, kc_356, kc_404, kc_405, kc_429, kc_573, kc_1002, kc_1100, kc_1891, kc_2200, kc_4719, kc_4869, kc_4881, kc_5148, kc_19741, kc_25433, kc_320403, kc_628412, kc_629093, kc_660401, kc_679843, kc_918640, kc_979410, kc_1178088, kc_6232410, kc_24644941, kc_36238189, kc_38270444, kc_392531318, kc_425693491, kc_1342154595, kc_2147483648, kc_42328242873, kc_891704255789, kc_1722105685577, kc_1858726030364, ct_0, ct_1, ct_2, ct_3, ct_4, ct_5, cf_0, cf_1, cf_2, cf_3, cf_4, cf_5, w_ty6, w_ty7, m_sv, m_z0, m_hd, m_g0, m_gs, m_s0, m_ss, m_ap, m_an, forall_const, true_and, and_true, ne_eq, not_true_eq_false, not_false_eq_true, false_implies, true_implies, implies_true, eq_self, reduceCtorEq, Nat.reduceDiv, Nat.reduceMod, Int.reduceToNat, or_true, true_or, or_false, false_or, or_self, m_it, m_if, m_c1, m_01, m_02, m_03, m_04, m_10, m_12, m_13, m_14, m_20, m_21, m_23, m_24, m_30, m_31, m_32, m_34, m_40, m_41, m_42, m_43, Int.reduceLE, Int.reduceLT, Int.reduceGE, Int.reduceGT, Int.reduceNeg, Int.reduceAdd, Int.reduceSub, Int.reduceMul, Int.reduceEq, Int.reduceNe, Nat.reduceAdd, jun2, ro_0_0, ro_0_1, ro_0_2, ro_0_3, ro_0_4, ro_0_5, ro_0_6, ro_0_7, ro_0_8, ro_0_9, ro_0_10, ro_0_11, ro_0_12, ro_1_0, ro_1_1, ro_2_0, ro_4_0, ro_6_0, ro_6_1, ro_6_2, ro_6_3, ro_6_4, ro_6_5, ro_6_6, ro_6_7, ro_6_8, ro_8_0, ro_10_0, ro_12_0, ro_14_0, ro_16_0, ro_18_0, ro_20_0, ro_22_0, ro_22_1, ro_22_2, ro_23_0, ro_25_0, ro_27_0, ro_29_0, ro_29_1, ro_29_2, ro_29_3, ro_29_4, ro_29_5, ro_29_6, ro_29_7, ro_29_8, ro_31_0, ro_33_0, ro_35_0, ro_37_0, ro_39_0, ro_41_0, ro_43_0, ro_45_0, ro_45_1, ro_45_2, ro_46_0, ro_48_0, ro_50_0, ro_52_0, ro_52_1, ro_52_2, ro_52_3, ro_53_0, ro_55_0, ro_57_0, ro_59_0, ro_61_0, ro_61_1, ro_61_2, ro_61_3, ro_62_0, ro_64_0, ro_66_0, ro_68_0, ro_70_0, ro_70_1, ro_70_2, ro_70_3, ro_70_4, ro_70_5, ro_70_6, ro_70_7, ro_70_8, ro_70_9, ro_71_0, ro_73_0, ro_75_0, ro_77_0, ro_79_0, ro_81_0, ro_83_0, ro_85_0, ro_87_0, ro_89_0, ro_91_0, ro_91_1, ro_91_2, ro_91_3, ro_91_4, ro_91_5, ro_91_6, ro_91_7, ro_91_8, ro_91_9, ro_92_0, ro_94_0, ro_96_0, ro_98_0, ro_100_0, ro_102_0, ro_104_0, ro_106_0, ro_108_0, ro_110_0, ro_112_0, ro_112_1, ro_112_2, ro_112_3, ro_112_4, ro_112_5, ro_112_6, ro_112_7, ro_112_8, ro_112_9, ro_113_0, ro_115_0, ro_117_0, ro_119_0, ro_121_0, ro_123_0, ro_125_0, ro_127_0, ro_129_0, ro_131_0, ro_133_0, ro_133_1, ro_133_2, ro_133_3, ro_133_4, ro_133_5, ro_133_6, ro_133_7, ro_133_8, ro_133_9, ro_134_0, ro_136_0, ro_138_0, ro_140_0, ro_142_0, ro_144_0, ro_146_0, ro_148_0, ro_150_0, ro_152_0, ro_154_0, ro_155_0, ro_157_0, ro_157_1, ro_157_2, ro_157_3, ro_157_4, ro_157_5, ro_157_6, ro_157_7, ro_157_8, ro_157_9, ro_158_0, ro_160_0, ro_162_0, ro_164_0, ro_166_0, ro_168_0, ro_170_0, ro_172_0, ro_174_0, ro_176_0, ro_178_0, ro_180_0, ro_182_1, ro_182_4, ro_182_5, ro_182_6, ro_182_9, ro_182_10, ro_182_11, ro_182_13, ro_182_14, ro_182_15, ro_182_16, ro_182_17, ro_182_20, ro_182_21, ro_182_22, ro_182_23, ro_182_24, ro_182_26, ro_182_27, ro_182_28, lo_3, lo_5, lo_7, lo_9, lo_11, lo_13, lo_15, lo_17, lo_19, lo_21, lo_24, lo_26, lo_28, lo_30, lo_32, lo_34, lo_36, lo_38, lo_40, lo_42, lo_44, lo_47, lo_49, lo_51, lo_54, lo_56, lo_58, lo_60, lo_63, lo_65, lo_67, lo_69, lo_72, lo_74, lo_76, lo_78, lo_80, lo_82, lo_84, lo_86, lo_88, lo_90, lo_93, lo_95, lo_97, lo_99, lo_101, lo_103, lo_105, lo_107, lo_109, lo_111, lo_114, lo_116, lo_118, lo_120, lo_122, lo_124, lo_126, lo_128, lo_130, lo_132, lo_135, lo_137, lo_139, lo_141, lo_143, lo_145, lo_147, lo_149, lo_151, lo_153, lo_156, lo_159, lo_161, lo_163, lo_165, lo_167, lo_169, lo_171, lo_173, lo_175, lo_177, lo_179, lo_181, lo_183, lo_184, lo_185, lo_186, lo_187, lo_188, lo_189, lo_190, lo_191, lo_192, lo_193, lo_194, lo_195, lo_196, lo_197, lo_198, lo_199, lo_200, lo_201, lo_202, lo_203, jp_nn, jp_eq, jp_e1, Classical.not_not, ji0, ji1, ji2, jl_0, jl_1, jl_2, jl_3, jl_4, jl_5, jl_6, jl_7, jl_8, jl_9, jl_10, jl_11, jl_12, jl_13, jl_14, jl_15, jl_16, jl_17, jl_18, jl_19, jl_20, jl_21, jl_22, jl_23, jl_24, jl_25, jl_26, jl_27, jl_28, jl_29, jl_30, jl_31, jl_32, jl_33, jl_34, jl_35, jl_36, jl_37, jl_38, jl_39, jl_40, jl_95, jl_96, jl_97, jl_98, jl_99, jl_100, jl_101, jl_102, jl_103, jl_104, jl_105, jl_106, jl_107, jl_108, jl_109, jl_110, jl_111, jl_112, jl_113, jl_114, jl_186, jl_1100, jr, ju, jpT, jpF, tnc, Nat.reduceEqDiff, reduceIte, and_false, false_and, not_true_eq_false, not_false_eq_true, or_false, gt_iff_lt, ge_iff_le, Int.lt_irrefl, Int.le_refl]
        exact hQ
      · by_cases y11 : w = 11
        · rw [jp_t (Or.inr (Or.inr (Or.inl y11)))] at hQ
          subst y11
          simp only [qe_1, qe_3, qe_4, qe_5, qe_7, qe_72, qe_10, qe_102, qe_13, qe_14, qe_15, qe_16, qe_17, qe_18, qe_20, qe_22, qe_23, qe_21, qe_24, qe_25, qe_26, qe_27, qe_28, qe_30, qe_31, qe_32, qc_20, qc_22, qc_23, qc_21, qc_24, qc_25, qc_26, qc_27, qc_1, qc_3, qc_4, qc_7, qc_13, qc_28, qc_32, qs_1, qs_2, qs_3, qs_4, qs_5, qs_6, qs_9, qs_10, qs_11, qs_14, qs_15, qs_16, qs_27, qs_17, qs_18, qs_19, qs_20, qs_22, qs_23, qs_28, qs_25, qs_26, qs_7, qs_8, kc_1, kn_1, kc_2, kn_2, kc_3, kn_3, kc_4, kn_4, kc_5, kn_5, kc_6, kn_6, kc_7, kn_7, kc_8, kn_8, kc_9, kn_9, kc_10, kn_10, kc_11, kn_11, kc_12, kn_12, kc_13, kn_13, kc_14, kn_14, kc_15, kn_15, kc_16, kc_17, kc_18, kc_19, kc_20, kc_21, kc_22, kc_23, kc_30, kc_32, kc_40, kc_43, kc_45, kc_48, kc_52, kc_56, kc_57, kc_59, kc_60, kc_61, kc_63, kc_64, kc_72, kc_78, kc_97, kc_99, kc_122, kc_126, kc_128, kc_192, kc_200, kc_255, kc_999, kc_1000, kc_9999, kn_9999, kc_10000, kc_12345, kc_65536, kc_252645135, kc_858993459, kc_1103515245, kc_1431655765, kc_2147483647, kc_0, kc_24, kc_28, kc_37, kc_41, kc_42, kc_73, kc_91, kc_95, kc_96, kc_98, kc_100, kc_112, kc_125, kc_150, kc_162, kc_163, kc_168, kc_186, kc_190, kc_250, kc_355, kc_356, kc_404, kc_405, kc_429, kc_573, kc_1002, kc_1100, kc_1891, kc_2200, kc_4719, kc_4869, kc_4881, kc_5148, kc_19741, kc_25433, kc_320403, kc_628412, kc_629093, kc_660401, kc_679843, kc_918640, kc_979410, kc_1178088, kc_6232410, kc_24644941, kc_36238189, kc_38270444, kc_392531318, kc_425693491, kc_1342154595, kc_2147483648, kc_42328242873, kc_891704255789, kc_1722105685577, kc_1858726030364, ct_0, ct_1, ct_2, ct_3, ct_4, ct_5, cf_0, cf_1, cf_2, cf_3, cf_4, cf_5, w_ty6, w_ty7, m_sv, m_z0, m_hd, m_g0, m_gs, m_s0, m_ss, m_ap, m_an, forall_const, true_and, and_true, ne_eq, not_true_eq_false, not_false_eq_true, false_implies, true_implies, implies_true, eq_self, reduceCtorEq, Nat.reduceDiv, Nat.reduceMod, Int.reduceToNat, or_true, true_or, or_false, false_or, or_self, m_it, m_if, m_c1, m_01, m_02, m_03, m_04, m_10, m_12, m_13, m_14, m_20, m_21, m_23, m_24, m_30, m_31, m_32, m_34, m_40, m_41, m_42, m_43, Int.reduceLE, Int.reduceLT, Int.reduceGE, Int.reduceGT, Int.reduceNeg, Int.reduceAdd, Int.reduceSub, Int.reduceMul, Int.reduceEq, Int.reduceNe, Nat.reduceAdd, jun2, ro_0_0, ro_0_1, ro_0_2, ro_0_3, ro_0_4, ro_0_5, ro_0_6, ro_0_7, ro_0_8, ro_0_9, ro_0_10, ro_0_11, ro_0_12, ro_1_0, ro_1_1, ro_2_0, ro_4_0, ro_6_0, ro_6_1, ro_6_2, ro_6_3, ro_6_4, ro_6_5, ro_6_6, ro_6_7, ro_6_8, ro_8_0, ro_10_0, ro_12_0, ro_14_0, ro_16_0, ro_18_0, ro_20_0, ro_22_0, ro_22_1, ro_22_2, ro_23_0, ro_25_0, ro_27_0, ro_29_0, ro_29_1, ro_29_2, ro_29_3, ro_29_4, ro_29_5, ro_29_6, ro_29_7, ro_29_8, ro_31_0, ro_33_0, ro_35_0, ro_37_0, ro_39_0, ro_41_0, ro_43_0, ro_45_0, ro_45_1, ro_45_2, ro_46_0, ro_48_0, ro_50_0, ro_52_0, ro_52_1, ro_52_2, ro_52_3, ro_53_0, ro_55_0, ro_57_0, ro_59_0, ro_61_0, ro_61_1, ro_61_2, ro_61_3, ro_62_0, ro_64_0, ro_66_0, ro_68_0, ro_70_0, ro_70_1, ro_70_2, ro_70_3, ro_70_4, ro_70_5, ro_70_6, ro_70_7, ro_70_8, ro_70_9, ro_71_0, ro_73_0, ro_75_0, ro_77_0, ro_79_0, ro_81_0, ro_83_0, ro_85_0, ro_87_0, ro_89_0, ro_91_0, ro_91_1, ro_91_2, ro_91_3, ro_91_4, ro_91_5, ro_91_6, ro_91_7, ro_91_8, ro_91_9, ro_92_0, ro_94_0, ro_96_0, ro_98_0, ro_100_0, ro_102_0, ro_104_0, ro_106_0, ro_108_0, ro_110_0, ro_112_0, ro_112_1, ro_112_2, ro_112_3, ro_112_4, ro_112_5, ro_112_6, ro_112_7, ro_112_8, ro_112_9, ro_113_0, ro_115_0, ro_117_0, ro_119_0, ro_121_0, ro_123_0, ro_125_0, ro_127_0, ro_129_0, ro_131_0, ro_133_0, ro_133_1, ro_133_2, ro_133_3, ro_133_4, ro_133_5, ro_133_6, ro_133_7, ro_133_8, ro_133_9, ro_134_0, ro_136_0, ro_138_0, ro_140_0, ro_142_0, ro_144_0, ro_146_0, ro_148_0, ro_150_0, ro_152_0, ro_154_0, ro_155_0, ro_157_0, ro_157_1, ro_157_2, ro_157_3, ro_157_4, ro_157_5, ro_157_6, ro_157_7, ro_157_8, ro_157_9, ro_158_0, ro_160_0, ro_162_0, ro_164_0, ro_166_0, ro_168_0, ro_170_0, ro_172_0, ro_174_0, ro_176_0, ro_178_0, ro_180_0, ro_182_1, ro_182_4, ro_182_5, ro_182_6, ro_182_9, ro_182_10, ro_182_11, ro_182_13, ro_182_14, ro_182_15, ro_182_16, ro_182_17, ro_182_20, ro_182_21, ro_182_22, ro_182_23, ro_182_24, ro_182_26, ro_182_27, ro_182_28, lo_3, lo_5, lo_7, lo_9, lo_11, lo_13, lo_15, lo_17, lo_19, lo_21, lo_24, lo_26, lo_28, lo_30, lo_32, lo_34, lo_36, lo_38, lo_40, lo_42, lo_44, lo_47, lo_49, lo_51, lo_54, lo_56, lo_58, lo_60, lo_63, lo_65, lo_67, lo_69, lo_72, lo_74, lo_76, lo_78, lo_80, lo_82, lo_84, lo_86, lo_88, lo_90, lo_93, lo_95, lo_97, lo_99, lo_101, lo_103, lo_105, lo_107, lo_109, lo_111, lo_114, lo_116, lo_118, lo_120, lo_122, lo_124, lo_126, lo_128, lo_130, lo_132, lo_135, lo_137, lo_139, lo_141, lo_143, lo_145, lo_147, lo_149, lo_151, lo_153, lo_156, lo_159, lo_161, lo_163, lo_165, lo_167, lo_169, lo_171, lo_173, lo_175, lo_177, lo_179, lo_181, lo_183, lo_184, lo_185, lo_186, lo_187, lo_188, lo_189, lo_190, lo_191, lo_192, lo_193, lo_194, lo_195, lo_196, lo_197, lo_198, lo_199, lo_200, lo_201, lo_202, lo_203, jp_nn, jp_eq, jp_e1, Classical.not_not, ji0, ji1, ji2, jl_0, jl_1, jl_2, jl_3, jl_4, jl_5, jl_6, jl_7, jl_8, jl_9, jl_10, jl_11, jl_12, jl_13, jl_14, jl_15, jl_16, jl_17, jl_18, jl_19, jl_20, jl_21, jl_22, jl_23, jl_24, jl_25, jl_26, jl_27, jl_28, jl_29, jl_30, jl_31, jl_32, jl_33, jl_34, jl_35, jl_36, jl_37, jl_38, jl_39, jl_40, jl_95, jl_96, jl_97, jl_98, jl_99, jl_100, jl_101, jl_102, jl_103, jl_104, jl_105, jl_106, jl_107, jl_108, jl_109, jl_110, jl_111, jl_112, jl_113, jl_114, jl_186, jl_1100, jr, ju, jpT, jpF, tnc, Nat.reduceEqDiff, reduceIte, and_false, false_and, not_true_eq_false, not_false_eq_true, or_false, gt_iff_lt, ge_iff_le, Int.lt_irrefl, Int.le_refl]
          exact hQ
        · by_cases y12 : w = 12
          · rw [jp_t (Or.inr (Or.inr (Or.inr y12)))] at hQ
            subst y12
            simp only [qe_1, qe_3, qe_4, qe_5, qe_7, qe_72, qe_10, qe_102, qe_13, qe_14, qe_15, qe_16, qe_17, qe_18, qe_20, qe_22, qe_23, qe_21, qe_24, qe_25, qe_26, qe_27, qe_28, qe_30, qe_31, qe_32, qc_20, qc_22, qc_23, qc_21, qc_24, qc_25, qc_26, qc_27, qc_1, qc_3, qc_4, qc_7, qc_13, qc_28, qc_32, qs_1, qs_2, qs_3, qs_4, qs_5, qs_6, qs_9, qs_10, qs_11, qs_14, qs_15, qs_16, qs_27, qs_17, qs_18, qs_19, qs_20, qs_22, qs_23, qs_28, qs_25, qs_26, qs_7, qs_8, kc_1, kn_1, kc_2, kn_2, kc_3, kn_3, kc_4, kn_4, kc_5, kn_5, kc_6, kn_6, kc_7, kn_7, kc_8, kn_8, kc_9, kn_9, kc_10, kn_10, kc_11, kn_11, kc_12, kn_12, kc_13, kn_13, kc_14, kn_14, kc_15, kn_15, kc_16, kc_17, kc_18, kc_19, kc_20, kc_21, kc_22, kc_23, kc_30, kc_32, kc_40, kc_43, kc_45, kc_48, kc_52, kc_56, kc_57, kc_59, kc_60, kc_61, kc_63, kc_64, kc_72, kc_78, kc_97, kc_99, kc_122, kc_126, kc_128, kc_192, kc_200, kc_255, kc_999, kc_1000, kc_9999, kn_9999, kc_10000, kc_12345, kc_65536, kc_252645135, kc_858993459, kc_1103515245, kc_1431655765, kc_2147483647, kc_0, kc_24, kc_28, kc_37, kc_41, kc_42, kc_73, kc_91, kc_95, kc_96, kc_98, kc_100, kc_112, kc_125, kc_150, kc_162, kc_163, kc_168, kc_186, kc_190, kc_250, kc_355, kc_356, kc_404, kc_405, kc_429, kc_573, kc_1002, kc_1100, kc_1891, kc_2200, kc_4719, kc_4869, kc_4881, kc_5148, kc_19741, kc_25433, kc_320403, kc_628412, kc_629093, kc_660401, kc_679843, kc_918640, kc_979410, kc_1178088, kc_6232410, kc_24644941, kc_36238189, kc_38270444, kc_392531318, kc_425693491, kc_1342154595, kc_2147483648, kc_42328242873, kc_891704255789, kc_1722105685577, kc_1858726030364, ct_0, ct_1, ct_2, ct_3, ct_4, ct_5, cf_0, cf_1, cf_2, cf_3, cf_4, cf_5, w_ty6, w_ty7, m_sv, m_z0, m_hd, m_g0, m_gs, m_s0, m_ss, m_ap, m_an, forall_const, true_and, and_true, ne_eq, not_true_eq_false, not_false_eq_true, false_implies, true_implies, implies_true, eq_self, reduceCtorEq, Nat.reduceDiv, Nat.reduceMod, Int.reduceToNat, or_true, true_or, or_false, false_or, or_self, m_it, m_if, m_c1, m_01, m_02, m_03, m_04, m_10, m_12, m_13, m_14, m_20, m_21, m_23, m_24, m_30, m_31, m_32, m_34, m_40, m_41, m_42, m_43, Int.reduceLE, Int.reduceLT, Int.reduceGE, Int.reduceGT, Int.reduceNeg, Int.reduceAdd, Int.reduceSub, Int.reduceMul, Int.reduceEq, Int.reduceNe, Nat.reduceAdd, jun2, ro_0_0, ro_0_1, ro_0_2, ro_0_3, ro_0_4, ro_0_5, ro_0_6, ro_0_7, ro_0_8, ro_0_9, ro_0_10, ro_0_11, ro_0_12, ro_1_0, ro_1_1, ro_2_0, ro_4_0, ro_6_0, ro_6_1, ro_6_2, ro_6_3, ro_6_4, ro_6_5, ro_6_6, ro_6_7, ro_6_8, ro_8_0, ro_10_0, ro_12_0, ro_14_0, ro_16_0, ro_18_0, ro_20_0, ro_22_0, ro_22_1, ro_22_2, ro_23_0, ro_25_0, ro_27_0, ro_29_0, ro_29_1, ro_29_2, ro_29_3, ro_29_4, ro_29_5, ro_29_6, ro_29_7, ro_29_8, ro_31_0, ro_33_0, ro_35_0, ro_37_0, ro_39_0, ro_41_0, ro_43_0, ro_45_0, ro_45_1, ro_45_2, ro_46_0, ro_48_0, ro_50_0, ro_52_0, ro_52_1, ro_52_2, ro_52_3, ro_53_0, ro_55_0, ro_57_0, ro_59_0, ro_61_0, ro_61_1, ro_61_2, ro_61_3, ro_62_0, ro_64_0, ro_66_0, ro_68_0, ro_70_0, ro_70_1, ro_70_2, ro_70_3, ro_70_4, ro_70_5, ro_70_6, ro_70_7, ro_70_8, ro_70_9, ro_71_0, ro_73_0, ro_75_0, ro_77_0, ro_79_0, ro_81_0, ro_83_0, ro_85_0, ro_87_0, ro_89_0, ro_91_0, ro_91_1, ro_91_2, ro_91_3, ro_91_4, ro_91_5, ro_91_6, ro_91_7, ro_91_8, ro_91_9, ro_92_0, ro_94_0, ro_96_0, ro_98_0, ro_100_0, ro_102_0, ro_104_0, ro_106_0, ro_108_0, ro_110_0, ro_112_0, ro_112_1, ro_112_2, ro_112_3, ro_112_4, ro_112_5, ro_112_6, ro_112_7, ro_112_8, ro_112_9, ro_113_0, ro_115_0, ro_117_0, ro_119_0, ro_121_0, ro_123_0, ro_125_0, ro_127_0, ro_129_0, ro_131_0, ro_133_0, ro_133_1, ro_133_2, ro_133_3, ro_133_4, ro_133_5, ro_133_6, ro_133_7, ro_133_8, ro_133_9, ro_134_0, ro_136_0, ro_138_0, ro_140_0, ro_142_0, ro_144_0, ro_146_0, ro_148_0, ro_150_0, ro_152_0, ro_154_0, ro_155_0, ro_157_0, ro_157_1, ro_157_2, ro_157_3, ro_157_4, ro_157_5, ro_157_6, ro_157_7, ro_157_8, ro_157_9, ro_158_0, ro_160_0, ro_162_0, ro_164_0, ro_166_0, ro_168_0, ro_170_0, ro_172_0, ro_174_0, ro_176_0, ro_178_0, ro_180_0, ro_182_1, ro_182_4, ro_182_5, ro_182_6, ro_182_9, ro_182_10, ro_182_11, ro_182_13, ro_182_14, ro_182_15, ro_182_16, ro_182_17, ro_182_20, ro_182_21, ro_182_22, ro_182_23, ro_182_24, ro_182_26, ro_182_27, ro_182_28, lo_3, lo_5, lo_7, lo_9, lo_11, lo_13, lo_15, lo_17, lo_19, lo_21, lo_24, lo_26, lo_28, lo_30, lo_32, lo_34, lo_36, lo_38, lo_40, lo_42, lo_44, lo_47, lo_49, lo_51, lo_54, lo_56, lo_58, lo_60, lo_63, lo_65, lo_67, lo_69, lo_72, lo_74, lo_76, lo_78, lo_80, lo_82, lo_84, lo_86, lo_88, lo_90, lo_93, lo_95, lo_97, lo_99, lo_101, lo_103, lo_105, lo_107, lo_109, lo_111, lo_114, lo_116, lo_118, lo_120, lo_122, lo_124, lo_126, lo_128, lo_130, lo_132, lo_135, lo_137, lo_139, lo_141, lo_143, lo_145, lo_147, lo_149, lo_151, lo_153, lo_156, lo_159, lo_161, lo_163, lo_165, lo_167, lo_169, lo_171, lo_173, lo_175, lo_177, lo_179, lo_181, lo_183, lo_184, lo_185, lo_186, lo_187, lo_188, lo_189, lo_190, lo_191, lo_192, lo_193, lo_194, lo_195, lo_196, lo_197, lo_198, lo_199, lo_200, lo_201, lo_202, lo_203, jp_nn, jp_eq, jp_e1, Classical.not_not, ji0, ji1, ji2, jl_0, jl_1, jl_2, jl_3, jl_4, jl_5, jl_6, jl_7, jl_8, jl_9, jl_10, jl_11, jl_12, jl_13, jl_14, jl_15, jl_16, jl_17, jl_18, jl_19, jl_20, jl_21, jl_22, jl_23, jl_24, jl_25, jl_26, jl_27, jl_28, jl_29, jl_30, jl_31, jl_32, jl_33, jl_34, jl_35, jl_36, jl_37, jl_38, jl_39, jl_40, jl_95, jl_96, jl_97, jl_98, jl_99, jl_100, jl_101, jl_102, jl_103, jl_104, jl_105, jl_106, jl_107, jl_108, jl_109, jl_110, jl_111, jl_112, jl_113, jl_114, jl_186, jl_1100, jr, ju, jpT, jpF, tnc, Nat.reduceEqDiff, reduceIte, and_false, false_and, not_true_eq_false, not_false_eq_true, or_false, gt_iff_lt, ge_iff_le, Int.lt_irrefl, Int.le_refl]
            exact hQ
          · rw [jp_f (by omega)] at hQ
            simp only [qe_1, qe_3, qe_4, qe_5, qe_7, qe_72, qe_10, qe_102, qe_13, qe_14, qe_15, qe_16, qe_17, qe_18, qe_20, qe_22, qe_23, qe_21, qe_24, qe_25, qe_26, qe_27, qe_28, qe_30, qe_31, qe_32, qc_20, qc_22, qc_23, qc_21, qc_24, qc_25, qc_26, qc_27, qc_1, qc_3, qc_4, qc_7, qc_13, qc_28, qc_32, qs_1, qs_2, qs_3, qs_4, qs_5, qs_6, qs_9, qs_10, qs_11, qs_14, qs_15, qs_16, qs_27, qs_17, qs_18, qs_19, qs_20, qs_22, qs_23, qs_28, qs_25, qs_26, qs_7, qs_8, kc_1, kn_1, kc_2, kn_2, kc_3, kn_3, kc_4, kn_4, kc_5, kn_5, kc_6, kn_6, kc_7, kn_7, kc_8, kn_8, kc_9, kn_9, kc_10, kn_10, kc_11, kn_11, kc_12, kn_12, kc_13, kn_13, kc_14, kn_14, kc_15, kn_15, kc_16, kc_17, kc_18, kc_19, kc_20, kc_21, kc_22, kc_23, kc_30, kc_32, kc_40, kc_43, kc_45, kc_48, kc_52, kc_56, kc_57, kc_59, kc_60, kc_61, kc_63, kc_64, kc_72, kc_78, kc_97, kc_99, kc_122, kc_126, kc_128, kc_192, kc_200, kc_255, kc_999, kc_1000, kc_9999, kn_9999, kc_10000, kc_12345, kc_65536, kc_252645135, kc_858993459, kc_1103515245, kc_1431655765, kc_2147483647, kc_0, kc_24, kc_28, kc_37, kc_41, kc_42, kc_73, kc_91, kc_95, kc_96, kc_98, kc_100, kc_112, kc_125, kc_150, kc_162, kc_163, kc_168, kc_186, kc_190, kc_250, kc_355, kc_356, kc_404, kc_405, kc_429, kc_573, kc_1002, kc_1100, kc_1891, kc_2200, kc_4719, kc_4869, kc_4881, kc_5148, kc_19741, kc_25433, kc_320403, kc_628412, kc_629093, kc_660401, kc_679843, kc_918640, kc_979410, kc_1178088, kc_6232410, kc_24644941, kc_36238189, kc_38270444, kc_392531318, kc_425693491, kc_1342154595, kc_2147483648, kc_42328242873, kc_891704255789, kc_1722105685577, kc_1858726030364, ct_0, ct_1, ct_2, ct_3, ct_4, ct_5, cf_0, cf_1, cf_2, cf_3, cf_4, cf_5, w_ty6, w_ty7, m_sv, m_z0, m_hd, m_g0, m_gs, m_s0, m_ss, m_ap, m_an, forall_const, true_and, and_true, ne_eq, not_true_eq_false, not_false_eq_true, false_implies, true_implies, implies_true, eq_self, reduceCtorEq, Nat.reduceDiv, Nat.reduceMod, Int.reduceToNat, or_true, true_or, or_false, false_or, or_self, m_it, m_if, m_c1, m_01, m_02, m_03, m_04, m_10, m_12, m_13, m_14, m_20, m_21, m_23, m_24, m_30, m_31, m_32, m_34, m_40, m_41, m_42, m_43, Int.reduceLE, Int.reduceLT, Int.reduceGE, Int.reduceGT, Int.reduceNeg, Int.reduceAdd, Int.reduceSub, Int.reduceMul, Int.reduceEq, Int.reduceNe, Nat.reduceAdd, jun2, ro_0_0, ro_0_1, ro_0_2, ro_0_3, ro_0_4, ro_0_5, ro_0_6, ro_0_7, ro_0_8, ro_0_9, ro_0_10, ro_0_11, ro_0_12, ro_1_0, ro_1_1, ro_2_0, ro_4_0, ro_6_0, ro_6_1, ro_6_2, ro_6_3, ro_6_4, ro_6_5, ro_6_6, ro_6_7, ro_6_8, ro_8_0, ro_10_0, ro_12_0, ro_14_0, ro_16_0, ro_18_0, ro_20_0, ro_22_0, ro_22_1, ro_22_2, ro_23_0, ro_25_0, ro_27_0, ro_29_0, ro_29_1, ro_29_2, ro_29_3, ro_29_4, ro_29_5, ro_29_6, ro_29_7, ro_29_8, ro_31_0, ro_33_0, ro_35_0, ro_37_0, ro_39_0, ro_41_0, ro_43_0, ro_45_0, ro_45_1, ro_45_2, ro_46_0, ro_48_0, ro_50_0, ro_52_0, ro_52_1, ro_52_2, ro_52_3, ro_53_0, ro_55_0, ro_57_0, ro_59_0, ro_61_0, ro_61_1, ro_61_2, ro_61_3, ro_62_0, ro_64_0, ro_66_0, ro_68_0, ro_70_0, ro_70_1, ro_70_2, ro_70_3, ro_70_4, ro_70_5, ro_70_6, ro_70_7, ro_70_8, ro_70_9, ro_71_0, ro_73_0, ro_75_0, ro_77_0, ro_79_0, ro_81_0, ro_83_0, ro_85_0, ro_87_0, ro_89_0, ro_91_0, ro_91_1, ro_91_2, ro_91_3, ro_91_4, ro_91_5, ro_91_6, ro_91_7, ro_91_8, ro_91_9, ro_92_0, ro_94_0, ro_96_0, ro_98_0, ro_100_0, ro_102_0, ro_104_0, ro_106_0, ro_108_0, ro_110_0, ro_112_0, ro_112_1, ro_112_2, ro_112_3, ro_112_4, ro_112_5, ro_112_6, ro_112_7, ro_112_8, ro_112_9, ro_113_0, ro_115_0, ro_117_0, ro_119_0, ro_121_0, ro_123_0, ro_125_0, ro_127_0, ro_129_0, ro_131_0, ro_133_0, ro_133_1, ro_133_2, ro_133_3, ro_133_4, ro_133_5, ro_133_6, ro_133_7, ro_133_8, ro_133_9, ro_134_0, ro_136_0, ro_138_0, ro_140_0, ro_142_0, ro_144_0, ro_146_0, ro_148_0, ro_150_0, ro_152_0, ro_154_0, ro_155_0, ro_157_0, ro_157_1, ro_157_2, ro_157_3, ro_157_4, ro_157_5, ro_157_6, ro_157_7, ro_157_8, ro_157_9, ro_158_0, ro_160_0, ro_162_0, ro_164_0, ro_166_0, ro_168_0, ro_170_0, ro_172_0, ro_174_0, ro_176_0, ro_178_0, ro_180_0, ro_182_1, ro_182_4, ro_182_5, ro_182_6, ro_182_9, ro_182_10, ro_182_11, ro_182_13, ro_182_14, ro_182_15, ro_182_16, ro_182_17, ro_182_20, ro_182_21, ro_182_22, ro_182_23, ro_182_24, ro_182_26, ro_182_27, ro_182_28, lo_3, lo_5, lo_7, lo_9, lo_11, lo_13, lo_15, lo_17, lo_19, lo_21, lo_24, lo_26, lo_28, lo_30, lo_32, lo_34, lo_36, lo_38, lo_40, lo_42, lo_44, lo_47, lo_49, lo_51, lo_54, lo_56, lo_58, lo_60, lo_63, lo_65, lo_67, lo_69, lo_72, lo_74, lo_76, lo_78, lo_80, lo_82, lo_84, lo_86, lo_88, lo_90, lo_93, lo_95, lo_97, lo_99, lo_101, lo_103, lo_105, lo_107, lo_109, lo_111, lo_114, lo_116, lo_118, lo_120, lo_122, lo_124, lo_126, lo_128, lo_130, lo_132, lo_135, lo_137, lo_139, lo_141, lo_143, lo_145, lo_147, lo_149, lo_151, lo_153, lo_156, lo_159, lo_161, lo_163, lo_165, lo_167, lo_169, lo_171, lo_173, lo_175, lo_177, lo_179, lo_181, lo_183, lo_184, lo_185, lo_186, lo_187, lo_188, lo_189, lo_190, lo_191, lo_192, lo_193, lo_194, lo_195, lo_196, lo_197, lo_198, lo_199, lo_200, lo_201, lo_202, lo_203, jp_nn, jp_eq, jp_e1, Classical.not_not, ji0, ji1, ji2, jl_0, jl_1, jl_2, jl_3, jl_4, jl_5, jl_6, jl_7, jl_8, jl_9, jl_10, jl_11, jl_12, jl_13, jl_14, jl_15, jl_16, jl_17, jl_18, jl_19, jl_20, jl_21, jl_22, jl_23, jl_24, jl_25, jl_26, jl_27, jl_28, jl_29, jl_30, jl_31, jl_32, jl_33, jl_34, jl_35, jl_36, jl_37, jl_38, jl_39, jl_40, jl_95, jl_96, jl_97, jl_98, jl_99, jl_100, jl_101, jl_102, jl_103, jl_104, jl_105, jl_106, jl_107, jl_108, jl_109, jl_110, jl_111, jl_112, jl_113, jl_114, jl_186, jl_1100, jr, ju, jpT, jpF, tnc, Nat.reduceEqDiff, reduceIte, and_false, false_and, not_true_eq_false, not_false_eq_true, or_false, gt_iff_lt, ge_iff_le, Int.lt_irrefl, Int.le_refl, y9, y10, y11, y12]
            exact hQ
  · exact hQ.elim
theorem m_116 : BodyOK CS25 CS25 116 := fun av h Q hQ => by
  rw [cs25_116] at hQ
  unfold k116 at hQ
  split at hQ
  · rename_i o d a b c
    obtain ⟨rfl, L, ln, l30, hQ⟩ := hQ
    have m4_w : h 61 4 = (L.length : Int) := ln.1
    have s1_w : ∀ {h : XH} {v : Int}, rs h 62 (L.length : Int) v = j_up h 63 L.length v := fun {h v} => rs_in (o := 62) (c := 63) (n := 30) ro_62_0 lo_63 l30
    have s2_w : ∀ {h : XH} {v : Int}, rs h 64 (L.length : Int) v = j_up h 65 L.length v := fun {h v} => rs_in (o := 64) (c := 65) (n := 30) ro_64_0 lo_65 l30
    have s3_w : ∀ {h : XH} {v : Int}, rs h 66 (L.length : Int) v = j_up h 67 L.length v := fun {h v} => rs_in (o := 66) (c := 67) (n := 30) ro_66_0 lo_67 l30
    have s4_w : ∀ {h : XH} {v : Int}, rs h 68 (L.length : Int) v = j_up h 69 L.length v := fun {h v} => rs_in (o := 68) (c := 69) (n := 30) ro_68_0 lo_69 l30
    have ek := jk1 (k := L.length) (by omega)
    show pS CS25 bb_116 [61, d, a, b, c] h _
    unfold bb_116
    simp only [qe_1, qe_3, qe_4, qe_5, qe_7, qe_72, qe_10, qe_102, qe_13, qe_14, qe_15, qe_16, qe_17, qe_18, qe_20, qe_22, qe_23, qe_21, qe_24, qe_25, qe_26, qe_27, qe_28, qe_30, qe_31, qe_32, qc_20, qc_22, qc_23, qc_21, qc_24, qc_25, qc_26, qc_27, qc_1, qc_3, qc_4, qc_7, qc_13, qc_28, qc_32, qs_1, qs_2, qs_3, qs_4, qs_5, qs_6, qs_9, qs_10, qs_11, qs_14, qs_15, qs_16, qs_27, qs_17, qs_18, qs_19, qs_20, qs_22, qs_23, qs_28, qs_25, qs_26, qs_7, qs_8, kc_1, kn_1, kc_2, kn_2, kc_3, kn_3, kc_4, kn_4, kc_5, kn_5, kc_6, kn_6, kc_7, kn_7, kc_8, kn_8, kc_9, kn_9, kc_10, kn_10, kc_11, kn_11, kc_12, kn_12, kc_13, kn_13, kc_14, kn_14, kc_15, kn_15, kc_16, kc_17, kc_18, kc_19, kc_20, kc_21, kc_22, kc_23, kc_30, kc_32, kc_40, kc_43, kc_45, kc_48, kc_52, kc_56, kc_57, kc_59, kc_60, kc_61, kc_63, kc_64, kc_72, kc_78, kc_97, kc_99, kc_122, kc_126, kc_128, kc_192, kc_200, kc_255, kc_999, kc_1000, kc_9999, kn_9999, kc_10000, kc_12345, kc_65536, kc_252645135, kc_858993459, kc_1103515245, kc_1431655765, kc_2147483647, kc_0, kc_24, kc_28, kc_37, kc_41, kc_42, kc_73, kc_91, kc_95, kc_96, kc_98, kc_100, kc_112, kc_125, kc_150, kc_162, kc_163, kc_168, kc_186, kc_190, kc_250, kc_355, kc_356, kc_404, kc_405, kc_429, kc_573, kc_1002, kc_1100, kc_1891, kc_2200, kc_4719, kc_4869, kc_4881, kc_5148, kc_19741, kc_25433, kc_320403, kc_628412, kc_629093, kc_660401, kc_679843, kc_918640, kc_979410, kc_1178088, kc_6232410, kc_24644941, kc_36238189, kc_38270444, kc_392531318, kc_425693491, kc_1342154595, kc_2147483648, kc_42328242873, kc_891704255789, kc_1722105685577, kc_1858726030364, ct_0, ct_1, ct_2, ct_3, ct_4, ct_5, cf_0, cf_1, cf_2, cf_3, cf_4, cf_5, w_ty6, w_ty7, m_sv, m_z0, m_hd, m_g0, m_gs, m_s0, m_ss, m_ap, m_an, forall_const, true_and, and_true, ne_eq, not_true_eq_false, not_false_eq_true, false_implies, true_implies, implies_true, eq_self, reduceCtorEq, Nat.reduceDiv, Nat.reduceMod, Int.reduceToNat, or_true, true_or, or_false, false_or, or_self, m_it, m_if, m_c1, m_01, m_02, m_03, m_04, m_10, m_12, m_13, m_14, m_20, m_21, m_23, m_24, m_30, m_31, m_32, m_34, m_40, m_41, m_42, m_43, Int.reduceLE, Int.reduceLT, Int.reduceGE, Int.reduceGT, Int.reduceNeg, Int.reduceAdd, Int.reduceSub, Int.reduceMul, Int.reduceEq, Int.reduceNe, Nat.reduceAdd, jun2, ro_0_0, ro_0_1, ro_0_2, ro_0_3, ro_0_4, ro_0_5, ro_0_6, ro_0_7, ro_0_8, ro_0_9, ro_0_10, ro_0_11, ro_0_12, ro_1_0, ro_1_1, ro_2_0, ro_4_0, ro_6_0, ro_6_1, ro_6_2, ro_6_3, ro_6_4, ro_6_5, ro_6_6, ro_6_7, ro_6_8, ro_8_0, ro_10_0, ro_12_0, ro_14_0, ro_16_0, ro_18_0, ro_20_0, ro_22_0, ro_22_1, ro_22_2, ro_23_0, ro_25_0, ro_27_0, ro_29_0, ro_29_1, ro_29_2, ro_29_3, ro_29_4, ro_29_5, ro_29_6, ro_29_7, ro_29_8, ro_31_0, ro_33_0, ro_35_0, ro_37_0, ro_39_0, ro_41_0, ro_43_0, ro_45_0, ro_45_1, ro_45_2, ro_46_0, ro_48_0, ro_50_0, ro_52_0, ro_52_1, ro_52_2, ro_52_3, ro_53_0, ro_55_0, ro_57_0, ro_59_0, ro_61_0, ro_61_1, ro_61_2, ro_61_3, ro_62_0, ro_64_0, ro_66_0, ro_68_0, ro_70_0, ro_70_1, ro_70_2, ro_70_3, ro_70_4, ro_70_5, ro_70_6, ro_70_7, ro_70_8, ro_70_9, ro_71_0, ro_73_0, ro_75_0, ro_77_0, ro_79_0, ro_81_0, ro_83_0, ro_85_0, ro_87_0, ro_89_0, ro_91_0, ro_91_1, ro_91_2, ro_91_3, ro_91_4, ro_91_5, ro_91_6, ro_91_7, ro_91_8, ro_91_9, ro_92_0, ro_94_0, ro_96_0, ro_98_0, ro_100_0, ro_102_0, ro_104_0, ro_106_0, ro_108_0, ro_110_0, ro_112_0, ro_112_1, ro_112_2, ro_112_3, ro_112_4, ro_112_5, ro_112_6, ro_112_7, ro_112_8, ro_112_9, ro_113_0, ro_115_0, ro_117_0, ro_119_0, ro_121_0, ro_123_0, ro_125_0, ro_127_0, ro_129_0, ro_131_0, ro_133_0, ro_133_1, ro_133_2, ro_133_3, ro_133_4, ro_133_5, ro_133_6, ro_133_7, ro_133_8, ro_133_9, ro_134_0, ro_136_0, ro_138_0, ro_140_0, ro_142_0, ro_144_0, ro_146_0, ro_148_0, ro_150_0, ro_152_0, ro_154_0, ro_155_0, ro_157_0, ro_157_1, ro_157_2, ro_157_3, ro_157_4, ro_157_5, ro_157_6, ro_157_7, ro_157_8, ro_157_9, ro_158_0, ro_160_0, ro_162_0, ro_164_0, ro_166_0, ro_168_0, ro_170_0, ro_172_0, ro_174_0, ro_176_0, ro_178_0, ro_180_0, ro_182_1, ro_182_4, ro_182_5, ro_182_6, ro_182_9, ro_182_10, ro_182_11, ro_182_13, ro_182_14, ro_182_15, ro_182_16, ro_182_17, ro_182_20, ro_182_21, ro_182_22, ro_182_23, ro_182_24, ro_182_26, ro_182_27, ro_182_28, lo_3, lo_5, lo_7, lo_9, lo_11, lo_13, lo_15, lo_17, lo_19, lo_21, lo_24, lo_26, lo_28, lo_30, lo_32, lo_34, lo_36, lo_38, lo_40, lo_42, lo_44, lo_47, lo_49, lo_51, lo_54, lo_56, lo_58, lo_60, lo_63, lo_65, lo_67, lo_69, lo_72, lo_74, lo_76, lo_78, lo_80, lo_82, lo_84, lo_86, lo_88, lo_90, lo_93, lo_95, lo_97, lo_99, lo_101, lo_103, lo_105, lo_107, lo_109, lo_111, lo_114, lo_116, lo_118, lo_120, lo_122, lo_124, lo_126, lo_128, lo_130, lo_132, lo_135, lo_137, lo_139, lo_141, lo_143, lo_145, lo_147, lo_149, lo_151, lo_153, lo_156, lo_159, lo_161, lo_163, lo_165, lo_167, lo_169, lo_171, lo_173, lo_175, lo_177, lo_179, lo_181, lo_183, lo_184, lo_185, lo_186, lo_187, lo_188, lo_189, lo_190, lo_191, lo_192, lo_193, lo_194, lo_195, lo_196, lo_197, lo_198, lo_199, lo_200, lo_201, lo_202, lo_203, jp_nn, jp_eq, jp_e1, Classical.not_not, ji0, ji1, ji2, cs25_55, kk_55, jl_0, jl_1, jl_2, jl_3, jl_4, jl_5, jl_6, jl_7, jl_8, jl_9, jl_10, jl_11, jl_12, jl_13, jl_14, jl_15, jl_16, jl_17, jl_18, jl_19, jl_20, jl_21, jl_22, jl_23, jl_24, jl_25, jl_26, jl_27, jl_28, jl_29, jl_30, jl_31, jl_32, jl_33, jl_34, jl_35, jl_36, jl_37, jl_38, jl_39, jl_40, jl_95, jl_96, jl_97, jl_98, jl_99, jl_100, jl_101, jl_102, jl_103, jl_104, jl_105, jl_106, jl_107, jl_108, jl_109, jl_110, jl_111, jl_112, jl_113, jl_114, jl_186, jl_1100, jr, ju, jpT, jpF, tnc, Nat.reduceEqDiff, reduceIte, and_false, false_and, not_true_eq_false, not_false_eq_true, or_false, gt_iff_lt, ge_iff_le, Int.lt_irrefl, Int.le_refl, m4_w, s1_w, s2_w, s3_w, s4_w, ek]
    have el : (L ++ [(d, a, b, c)]).length = L.length + 1 := by simp
    refine hQ _ ((FWk.up (by omega)).tr ((FWk.up (by omega)).tr ((FWk.up (by omega)).tr ((FWk.up (by omega)).tr (FWk.up (by omega)))))) rfl (fun k => rfl) ⟨by rw [up_eq, el], by omega, fun k x z => ?_⟩
    have hk := lt_of_some z
    rw [el] at hk
    by_cases yk : k = L.length
    · subst yk
      have z' : (d, a, b, c) = x := by simpa using z
      subst z'
      refine ⟨?_, ?_, ?_, ?_⟩
      · rw [up_ne (by omega), up_ne (by omega), up_ne (by omega), up_ne (by omega), up_eq]
      · rw [up_ne (by omega), up_ne (by omega), up_ne (by omega), up_eq]
      · rw [up_ne (by omega), up_ne (by omega), up_eq]
      · rw [up_ne (by omega), up_eq]
    · rw [List.getElem?_append_left (by omega)] at z
      obtain ⟨a1_w, a2, a3, a4⟩ := ln.2.2 k x z
      refine ⟨Eq.trans ?_ a1_w, Eq.trans ?_ a2, Eq.trans ?_ a3, Eq.trans ?_ a4⟩ <;> rw [up_ne (by omega), up_ne (by omega), up_ne (by omega), up_ne (by omega), up_ne (by omega)]
  · exact hQ.elim
theorem m_117 : BodyOK CS25 CS25 117 := fun av h Q hQ => by
  rw [cs25_117] at hQ
  unfold k117 at hQ
  split at hQ
  · rename_i o p
    obtain ⟨rfl, rfl, L, ln, hQ⟩ := hQ
    show pS CS25 bb_117 [52, 61] h _
    unfold bb_117
    simp only [qe_1, qe_3, qe_4, qe_5, qe_7, qe_72, qe_10, qe_102, qe_13, qe_14, qe_15, qe_16, qe_17, qe_18, qe_20, qe_22, qe_23, qe_21, qe_24, qe_25, qe_26, qe_27, qe_28, qe_30, qe_31, qe_32, qc_20, qc_22, qc_23, qc_21, qc_24, qc_25, qc_26, qc_27, qc_1, qc_3, qc_4, qc_7, qc_13, qc_28, qc_32, qs_1, qs_2, qs_3, qs_4, qs_5, qs_6, qs_9, qs_10, qs_11, qs_14, qs_15, qs_16, qs_27, qs_17, qs_18, qs_19, qs_20, qs_22, qs_23, qs_28, qs_25, qs_26, qs_7, qs_8, kc_1, kn_1, kc_2, kn_2, kc_3, kn_3, kc_4, kn_4, kc_5, kn_5, kc_6, kn_6, kc_7, kn_7, kc_8, kn_8, kc_9, kn_9, kc_10, kn_10, kc_11, kn_11, kc_12, kn_12, kc_13, kn_13, kc_14, kn_14, kc_15, kn_15, kc_16, kc_17, kc_18, kc_19, kc_20, kc_21, kc_22, kc_23, kc_30, kc_32, kc_40, kc_43, kc_45, kc_48, kc_52, kc_56, kc_57, kc_59, kc_60, kc_61, kc_63, kc_64, kc_72, kc_78, kc_97, kc_99, kc_122, kc_126, kc_128, kc_192, kc_200, kc_255, kc_999, kc_1000, kc_9999, kn_9999, kc_10000, kc_12345, kc_65536, kc_252645135, kc_858993459, kc_1103515245, kc_1431655765, kc_2147483647, kc_0, kc_24, kc_28, kc_37, kc_41, kc_42, kc_73, kc_91, kc_95, kc_96, kc_98, kc_100, kc_112, kc_125, kc_150, kc_162, kc_163, kc_168, kc_186, kc_190, kc_250, kc_355, kc_356, kc_404, kc_405, kc_429, kc_573, kc_1002, kc_1100, kc_1891, kc_2200, kc_4719, kc_4869, kc_4881, kc_5148, kc_19741, kc_25433, kc_320403, kc_628412, kc_629093, kc_660401, kc_679843, kc_918640, kc_979410, kc_1178088, kc_6232410, kc_24644941, kc_36238189, kc_38270444, kc_392531318, kc_425693491, kc_1342154595, kc_2147483648, kc_42328242873, kc_891704255789, kc_1722105685577, kc_1858726030364, ct_0, ct_1, ct_2, ct_3, ct_4, ct_5, cf_0, cf_1, cf_2, cf_3, cf_4, cf_5, w_ty6, w_ty7, m_sv, m_z0, m_hd, m_g0, m_gs, m_s0, m_ss, m_ap, m_an, forall_const, true_and, and_true, ne_eq, not_true_eq_false, not_false_eq_true, false_implies, true_implies, implies_true, eq_self, reduceCtorEq, Nat.reduceDiv, Nat.reduceMod, Int.reduceToNat, or_true, true_or, or_false, false_or, or_self, m_it, m_if, m_c1, m_01, m_02, m_03, m_04, m_10, m_12, m_13, m_14, m_20, m_21, m_23, m_24, m_30, m_31, m_32, m_34, m_40, m_41, m_42, m_43, Int.reduceLE, Int.reduceLT, Int.reduceGE, Int.reduceGT, Int.reduceNeg, Int.reduceAdd, Int.reduceSub, Int.reduceMul, Int.reduceEq, Int.reduceNe, Nat.reduceAdd, jun2, ro_0_0, ro_0_1, ro_0_2, ro_0_3, ro_0_4, ro_0_5, ro_0_6, ro_0_7, ro_0_8, ro_0_9, ro_0_10, ro_0_11, ro_0_12, ro_1_0, ro_1_1, ro_2_0, ro_4_0, ro_6_0, ro_6_1, ro_6_2, ro_6_3, ro_6_4, ro_6_5, ro_6_6, ro_6_7, ro_6_8, ro_8_0, ro_10_0, ro_12_0, ro_14_0, ro_16_0, ro_18_0, ro_20_0, ro_22_0, ro_22_1, ro_22_2, ro_23_0, ro_25_0, ro_27_0, ro_29_0, ro_29_1, ro_29_2, ro_29_3, ro_29_4, ro_29_5, ro_29_6, ro_29_7, ro_29_8, ro_31_0, ro_33_0, ro_35_0, ro_37_0, ro_39_0, ro_41_0, ro_43_0, ro_45_0, ro_45_1, ro_45_2, ro_46_0, ro_48_0, ro_50_0, ro_52_0, ro_52_1, ro_52_2, ro_52_3, ro_53_0, ro_55_0, ro_57_0, ro_59_0, ro_61_0, ro_61_1, ro_61_2, ro_61_3, ro_62_0, ro_64_0, ro_66_0, ro_68_0, ro_70_0, ro_70_1, ro_70_2, ro_70_3, ro_70_4, ro_70_5, ro_70_6, ro_70_7, ro_70_8, ro_70_9, ro_71_0, ro_73_0, ro_75_0, ro_77_0, ro_79_0, ro_81_0, ro_83_0, ro_85_0, ro_87_0, ro_89_0, ro_91_0, ro_91_1, ro_91_2, ro_91_3, ro_91_4, ro_91_5, ro_91_6, ro_91_7, ro_91_8, ro_91_9, ro_92_0, ro_94_0, ro_96_0, ro_98_0, ro_100_0, ro_102_0, ro_104_0, ro_106_0, ro_108_0, ro_110_0, ro_112_0, ro_112_1, ro_112_2, ro_112_3, ro_112_4, ro_112_5, ro_112_6, ro_112_7, ro_112_8, ro_112_9, ro_113_0, ro_115_0, ro_117_0, ro_119_0, ro_121_0, ro_123_0, ro_125_0, ro_127_0, ro_129_0, ro_131_0, ro_133_0, ro_133_1, ro_133_2, ro_133_3, ro_133_4, ro_133_5, ro_133_6, ro_133_7, ro_133_8, ro_133_9, ro_134_0, ro_136_0, ro_138_0, ro_140_0, ro_142_0, ro_144_0, ro_146_0, ro_148_0, ro_150_0, ro_152_0, ro_154_0, ro_155_0, ro_157_0, ro_157_1, ro_157_2, ro_157_3, ro_157_4, ro_157_5, ro_157_6, ro_157_7, ro_157_8, ro_157_9, ro_158_0, ro_160_0, ro_162_0, ro_164_0, ro_166_0, ro_168_0, ro_170_0, ro_172_0, ro_174_0, ro_176_0, ro_178_0, ro_180_0, ro_182_1, ro_182_4, ro_182_5, ro_182_6, ro_182_9, ro_182_10, ro_182_11, ro_182_13, ro_182_14, ro_182_15, ro_182_16, ro_182_17, ro_182_20, ro_182_21, ro_182_22, ro_182_23, ro_182_24, ro_182_26, ro_182_27, ro_182_28, lo_3, lo_5, lo_7, lo_9, lo_11, lo_13, lo_15, lo_17, lo_19, lo_21, lo_24, lo_26, lo_28, lo_30, lo_32, lo_34, lo_36, lo_38, lo_40, lo_42, lo_44, lo_47, lo_49, lo_51, lo_54, lo_56, lo_58, lo_60, lo_63, lo_65, lo_67, lo_69, lo_72, lo_74, lo_76, lo_78, lo_80, lo_82, lo_84, lo_86, lo_88, lo_90, lo_93, lo_95, lo_97, lo_99, lo_101, lo_103, lo_105, lo_107, lo_109, lo_111, lo_114, lo_116, lo_118, lo_120, lo_122, lo_124, lo_126, lo_128, lo_130, lo_132, lo_135, lo_137, lo_139, lo_141, lo_143, lo_145, lo_147, lo_149, lo_151, lo_153, lo_156, lo_159, lo_161, lo_163, lo_165, lo_167, lo_169, lo_171, lo_173, lo_175, lo_177, lo_179, lo_181, lo_183, lo_184, lo_185, lo_186, lo_187, lo_188, lo_189, lo_190, lo_191, lo_192, lo_193, lo_194, lo_195, lo_196, lo_197, lo_198, lo_199, lo_200, lo_201, lo_202, lo_203, jp_nn, jp_eq, jp_e1, Classical.not_not, ji0, ji1, ji2, cs25_58, kk_58, jl_0, jl_1, jl_2, jl_3, jl_4, jl_5, jl_6, jl_7, jl_8, jl_9, jl_10, jl_11, jl_12, jl_13, jl_14, jl_15, jl_16, jl_17, jl_18, jl_19, jl_20, jl_21, jl_22, jl_23, jl_24, jl_25, jl_26, jl_27, jl_28, jl_29, jl_30, jl_31, jl_32, jl_33, jl_34, jl_35, jl_36, jl_37, jl_38, jl_39, jl_40, jl_95, jl_96, jl_97, jl_98, jl_99, jl_100, jl_101, jl_102, jl_103, jl_104, jl_105, jl_106, jl_107, jl_108, jl_109, jl_110, jl_111, jl_112, jl_113, jl_114, jl_186, jl_1100, jr, ju, jpT, jpF, tnc, Nat.reduceEqDiff, reduceIte, and_false, false_and, not_true_eq_false, not_false_eq_true, or_false, gt_iff_lt, ge_iff_le, Int.lt_irrefl, Int.le_refl]
    refine ⟨54, 63, 30, rfl, rfl, lo_54, lo_63, by decide, by decide, fun h1 f1_w g1 => ?_⟩
    refine ⟨56, 65, 30, rfl, rfl, lo_56, lo_65, by decide, by decide, fun h2 f2_w g2 => ?_⟩
    refine ⟨58, 67, 30, rfl, rfl, lo_58, lo_67, by decide, by decide, fun h3 f3_w g3_w => ?_⟩
    refine ⟨60, 69, 30, rfl, rfl, lo_60, lo_69, by decide, by decide, fun h4 f4_w g4 => ?_⟩
    refine hQ _ (fun o k z => ?_) ⟨?_, ln.2.1, fun k x z => ?_⟩
    · rw [up_ne (by omega), f4_w o k (by omega), f3_w o k (by omega), f2_w o k (by omega), f1_w o k (by omega)]
    · rw [up_eq, f4_w 61 4 (by omega), f3_w 61 4 (by omega), f2_w 61 4 (by omega), f1_w 61 4 (by omega)]
      exact ln.1
    · have hk := lt_of_some z
      have l30 := ln.2.1
      obtain ⟨a1_w, a2, a3, a4⟩ := ln.2.2 k x z
      refine ⟨?_, ?_, ?_, ?_⟩
      · rw [up_ne (by omega), f4_w 54 k (by omega), f3_w 54 k (by omega), f2_w 54 k (by omega), g1 k (by omega)]
        exact a1_w
      · rw [up_ne (by omega), f4_w 56 k (by omega), f3_w 56 k (by omega), g2 k (by omega), f1_w 65 k (by omega)]
        exact a2
      · rw [up_ne (by omega), f4_w 58 k (by omega), g3_w k (by omega), f2_w 67 k (by omega), f1_w 67 k (by omega)]
        exact a3
      · rw [up_ne (by omega), g4 k (by omega), f3_w 69 k (by omega), f2_w 69 k (by omega), f1_w 69 k (by omega)]
        exact a4
  · exact hQ.elim
theorem m_132 : BodyOK CS25 CS25 132 := fun av h Q hQ => by
  rw [cs25_132] at hQ
  unfold k132 at hQ
  split at hQ
  · rename_i o l
    obtain ⟨rfl, rfl, T, i, D, L, t, lt, cd, ln, l30, q1_w, q2_w⟩ := hQ
    have ew : sWE 3 T D i = eB (sSgn (tS T) (tP T) (tV T) 59 (i + 1)) fun j => .ok ((3, 0, 0, 0), j) := rfl
    obtain ⟨n1_w, n2_w, n3_w, n4_w⟩ := t.nx lt rfl rfl
    show pS CS25 bb_132 [1, 61] h _
    unfold bb_132
    simp only [qe_1, qe_3, qe_4, qe_5, qe_7, qe_72, qe_10, qe_102, qe_13, qe_14, qe_15, qe_16, qe_17, qe_18, qe_20, qe_22, qe_23, qe_21, qe_24, qe_25, qe_26, qe_27, qe_28, qe_30, qe_31, qe_32, qc_20, qc_22, qc_23, qc_21, qc_24, qc_25, qc_26, qc_27, qc_1, qc_3, qc_4, qc_7, qc_13, qc_28, qc_32, qs_1, qs_2, qs_3, qs_4, qs_5, qs_6, qs_9, qs_10, qs_11, qs_14, qs_15, qs_16, qs_27, qs_17, qs_18, qs_19, qs_20, qs_22, qs_23, qs_28, qs_25, qs_26, qs_7, qs_8, kc_1, kn_1, kc_2, kn_2, kc_3, kn_3, kc_4, kn_4, kc_5, kn_5, kc_6, kn_6, kc_7, kn_7, kc_8, kn_8, kc_9, kn_9, kc_10, kn_10, kc_11, kn_11, kc_12, kn_12, kc_13, kn_13, kc_14, kn_14, kc_15, kn_15, kc_16, kc_17, kc_18, kc_19, kc_20, kc_21, kc_22, kc_23, kc_30, kc_32, kc_40, kc_43, kc_45, kc_48, kc_52, kc_56, kc_57, kc_59, kc_60, kc_61, kc_63, kc_64, kc_72, kc_78, kc_97, kc_99, kc_122, kc_126, kc_128, kc_192, kc_200, kc_255, kc_999, kc_1000, kc_9999, kn_9999, kc_10000, kc_12345, kc_65536, kc_252645135, kc_858993459, kc_1103515245, kc_1431655765, kc_2147483647, kc_0, kc_24, kc_28, kc_37, kc_41, kc_42, kc_73, kc_91, kc_95, kc_96, kc_98, kc_100, kc_112, kc_125, kc_150, kc_162, kc_163, kc_168, kc_186, kc_190, kc_250, kc_355, kc_356, kc_404, kc_405, kc_429, kc_573, kc_1002, kc_1100, kc_1891, kc_2200, kc_4719, kc_4869, kc_4881, kc_5148, kc_19741, kc_25433, kc_320403, kc_628412, kc_629093, kc_660401, kc_679843, kc_918640, kc_979410, kc_1178088, kc_6232410, kc_24644941, kc_36238189, kc_38270444, kc_392531318, kc_425693491, kc_1342154595, kc_2147483648, kc_42328242873, kc_891704255789, kc_1722105685577, kc_1858726030364, ct_0, ct_1, ct_2, ct_3, ct_4, ct_5, cf_0, cf_1, cf_2, cf_3, cf_4, cf_5, w_ty6, w_ty7, m_sv, m_z0, m_hd, m_g0, m_gs, m_s0, m_ss, m_ap, m_an, forall_const, true_and, and_true, ne_eq, not_true_eq_false, not_false_eq_true, false_implies, true_implies, implies_true, eq_self, reduceCtorEq, Nat.reduceDiv, Nat.reduceMod, Int.reduceToNat, or_true, true_or, or_false, false_or, or_self, m_it, m_if, m_c1, m_01, m_02, m_03, m_04, m_10, m_12, m_13, m_14, m_20, m_21, m_23, m_24, m_30, m_31, m_32, m_34, m_40, m_41, m_42, m_43, Int.reduceLE, Int.reduceLT, Int.reduceGE, Int.reduceGT, Int.reduceNeg, Int.reduceAdd, Int.reduceSub, Int.reduceMul, Int.reduceEq, Int.reduceNe, Nat.reduceAdd, jun2, ro_0_0, ro_0_1, ro_0_2, ro_0_3, ro_0_4, ro_0_5, ro_0_6, ro_0_7, ro_0_8, ro_0_9, ro_0_10, ro_0_11, ro_0_12, ro_1_0, ro_1_1, ro_2_0, ro_4_0, ro_6_0, ro_6_1, ro_6_2, ro_6_3, ro_6_4, ro_6_5, ro_6_6, ro_6_7, ro_6_8, ro_8_0, ro_10_0, ro_12_0, ro_14_0, ro_16_0, ro_18_0, ro_20_0, ro_22_0, ro_22_1, ro_22_2, ro_23_0, ro_25_0, ro_27_0, ro_29_0, ro_29_1, ro_29_2, ro_29_3, ro_29_4, ro_29_5, ro_29_6, ro_29_7, ro_29_8, ro_31_0, ro_33_0, ro_35_0, ro_37_0, ro_39_0, ro_41_0, ro_43_0, ro_45_0, ro_45_1, ro_45_2, ro_46_0, ro_48_0, ro_50_0, ro_52_0, ro_52_1, ro_52_2, ro_52_3, ro_53_0, ro_55_0, ro_57_0, ro_59_0, ro_61_0, ro_61_1, ro_61_2, ro_61_3, ro_62_0, ro_64_0, ro_66_0, ro_68_0, ro_70_0, ro_70_1, ro_70_2, ro_70_3, ro_70_4, ro_70_5, ro_70_6, ro_70_7, ro_70_8, ro_70_9, ro_71_0, ro_73_0, ro_75_0, ro_77_0, ro_79_0, ro_81_0, ro_83_0, ro_85_0, ro_87_0, ro_89_0, ro_91_0, ro_91_1, ro_91_2, ro_91_3, ro_91_4, ro_91_5, ro_91_6, ro_91_7, ro_91_8, ro_91_9, ro_92_0, ro_94_0, ro_96_0, ro_98_0, ro_100_0, ro_102_0, ro_104_0, ro_106_0, ro_108_0, ro_110_0, ro_112_0, ro_112_1, ro_112_2, ro_112_3, ro_112_4, ro_112_5, ro_112_6, ro_112_7, ro_112_8, ro_112_9, ro_113_0, ro_115_0, ro_117_0, ro_119_0, ro_121_0, ro_123_0, ro_125_0, ro_127_0, ro_129_0, ro_131_0, ro_133_0, ro_133_1, ro_133_2, ro_133_3, ro_133_4, ro_133_5, ro_133_6, ro_133_7, ro_133_8, ro_133_9, ro_134_0, ro_136_0, ro_138_0, ro_140_0, ro_142_0, ro_144_0, ro_146_0, ro_148_0, ro_150_0, ro_152_0, ro_154_0, ro_155_0, ro_157_0, ro_157_1, ro_157_2, ro_157_3, ro_157_4, ro_157_5, ro_157_6, ro_157_7, ro_157_8, ro_157_9, ro_158_0, ro_160_0, ro_162_0, ro_164_0, ro_166_0, ro_168_0, ro_170_0, ro_172_0, ro_174_0, ro_176_0, ro_178_0, ro_180_0, ro_182_1, ro_182_4, ro_182_5, ro_182_6, ro_182_9, ro_182_10, ro_182_11, ro_182_13, ro_182_14, ro_182_15, ro_182_16, ro_182_17, ro_182_20, ro_182_21, ro_182_22, ro_182_23, ro_182_24, ro_182_26, ro_182_27, ro_182_28, lo_3, lo_5, lo_7, lo_9, lo_11, lo_13, lo_15, lo_17, lo_19, lo_21, lo_24, lo_26, lo_28, lo_30, lo_32, lo_34, lo_36, lo_38, lo_40, lo_42, lo_44, lo_47, lo_49, lo_51, lo_54, lo_56, lo_58, lo_60, lo_63, lo_65, lo_67, lo_69, lo_72, lo_74, lo_76, lo_78, lo_80, lo_82, lo_84, lo_86, lo_88, lo_90, lo_93, lo_95, lo_97, lo_99, lo_101, lo_103, lo_105, lo_107, lo_109, lo_111, lo_114, lo_116, lo_118, lo_120, lo_122, lo_124, lo_126, lo_128, lo_130, lo_132, lo_135, lo_137, lo_139, lo_141, lo_143, lo_145, lo_147, lo_149, lo_151, lo_153, lo_156, lo_159, lo_161, lo_163, lo_165, lo_167, lo_169, lo_171, lo_173, lo_175, lo_177, lo_179, lo_181, lo_183, lo_184, lo_185, lo_186, lo_187, lo_188, lo_189, lo_190, lo_191, lo_192, lo_193, lo_194, lo_195, lo_196, lo_197, lo_198, lo_199, lo_200, lo_201, lo_202, lo_203, jp_nn, jp_eq, jp_e1, Classical.not_not, ji0, ji1, ji2, cs25_64, kk_64, cs25_134, kk_134, cs25_116, kk_116, jl_0, jl_1, jl_2, jl_3, jl_4, jl_5, jl_6, jl_7, jl_8, jl_9, jl_10, jl_11, jl_12, jl_13, jl_14, jl_15, jl_16, jl_17, jl_18, jl_19, jl_20, jl_21, jl_22, jl_23, jl_24, jl_25, jl_26, jl_27, jl_28, jl_29, jl_30, jl_31, jl_32, jl_33, jl_34, jl_35, jl_36, jl_37, jl_38, jl_39, jl_40, jl_95, jl_96, jl_97, jl_98, jl_99, jl_100, jl_101, jl_102, jl_103, jl_104, jl_105, jl_106, jl_107, jl_108, jl_109, jl_110, jl_111, jl_112, jl_113, jl_114, jl_186, jl_1100, jr, ju, jpT, jpF, tnc, Nat.reduceEqDiff, reduceIte, and_false, false_and, not_true_eq_false, not_false_eq_true, or_false, gt_iff_lt, ge_iff_le, Int.lt_irrefl, Int.le_refl]
    refine ⟨_, _, n1_w, n2_w, n3_w, fun h1 f1_w a1_w => ⟨L, ln.rd f1_w.rd, l30, fun h2 f2_w e2_w g2 ln2 => ?_⟩⟩
    have t2_w : TCA T (i + 1) h2 := TC.ft (n4_w h1 f1_w a1_w) (fun o k z => f2t g2 f2_w o k z)
    exact ⟨T, i + 1, t2_w, fun f h3 e f3_w e6_w => q1_w f h3 (by rw [ew, e]; rfl) ((f1_w.wk.tr f2_w).tr f3_w.wk) e6_w, fun j h3 e f3_w t3_w => q2_w _ j h3 (by rw [ew, e]; rfl) ((f1_w.wk.tr f2_w).tr f3_w.wk) (f3_w.2.trans (e2_w.trans (f1_w 1 6 (by omega)))) (ln2.rd f3_w.1) t3_w⟩
  · exact hQ.elim
theorem m_131 : BodyOK CS25 CS25 131 := fun av h Q hQ => by
  rw [cs25_131] at hQ
  unfold k131 kWL at hQ
  split at hQ
  · rename_i o p l
    obtain ⟨rfl, rfl, rfl, T, i, D, L, t, lt, cd, ln, l30, q1_w, q2_w⟩ := hQ
    have ew : sWE 2 T D i = eB (eB (sNum (tS T) (tP T) (tV T) 0 (D.1 - 1) (i + 1)) fun t => eB (sNum (tS T) (tP T) (tV T) 0 9999 t.2) fun u => .ok ((2, t.1, u.1, 0), u.2)) fun r => eB (sSgn (tS T) (tP T) (tV T) 59 r.2) fun j => .ok (r.1, j) := rfl
    obtain ⟨n1_w, n2_w, n3_w, n4_w⟩ := t.nx lt rfl rfl
    have d1_w := cd.2.1
    have e1_w : j32 (D.1 - 1) = D.1 - 1 := j32_id (by omega) (by omega)
    show pS CS25 bb_131 [1, 6, 61, 0] h _
    unfold bb_131
    simp only [qe_1, qe_3, qe_4, qe_5, qe_7, qe_72, qe_10, qe_102, qe_13, qe_14, qe_15, qe_16, qe_17, qe_18, qe_20, qe_22, qe_23, qe_21, qe_24, qe_25, qe_26, qe_27, qe_28, qe_30, qe_31, qe_32, qc_20, qc_22, qc_23, qc_21, qc_24, qc_25, qc_26, qc_27, qc_1, qc_3, qc_4, qc_7, qc_13, qc_28, qc_32, qs_1, qs_2, qs_3, qs_4, qs_5, qs_6, qs_9, qs_10, qs_11, qs_14, qs_15, qs_16, qs_27, qs_17, qs_18, qs_19, qs_20, qs_22, qs_23, qs_28, qs_25, qs_26, qs_7, qs_8, kc_1, kn_1, kc_2, kn_2, kc_3, kn_3, kc_4, kn_4, kc_5, kn_5, kc_6, kn_6, kc_7, kn_7, kc_8, kn_8, kc_9, kn_9, kc_10, kn_10, kc_11, kn_11, kc_12, kn_12, kc_13, kn_13, kc_14, kn_14, kc_15, kn_15, kc_16, kc_17, kc_18, kc_19, kc_20, kc_21, kc_22, kc_23, kc_30, kc_32, kc_40, kc_43, kc_45, kc_48, kc_52, kc_56, kc_57, kc_59, kc_60, kc_61, kc_63, kc_64, kc_72, kc_78, kc_97, kc_99, kc_122, kc_126, kc_128, kc_192, kc_200, kc_255, kc_999, kc_1000, kc_9999, kn_9999, kc_10000, kc_12345, kc_65536, kc_252645135, kc_858993459, kc_1103515245, kc_1431655765, kc_2147483647, kc_0, kc_24, kc_28, kc_37, kc_41, kc_42, kc_73, kc_91, kc_95, kc_96, kc_98, kc_100, kc_112, kc_125, kc_150, kc_162, kc_163, kc_168, kc_186, kc_190, kc_250, kc_355, kc_356, kc_404, kc_405, kc_429, kc_573, kc_1002, kc_1100, kc_1891, kc_2200, kc_4719, kc_4869, kc_4881, kc_5148, kc_19741, kc_25433, kc_320403, kc_628412, kc_629093, kc_660401, kc_679843, kc_918640, kc_979410, kc_1178088, kc_6232410, kc_24644941, kc_36238189, kc_38270444, kc_392531318, kc_425693491, kc_1342154595, kc_2147483648, kc_42328242873, kc_891704255789, kc_1722105685577, kc_1858726030364, ct_0, ct_1, ct_2, ct_3, ct_4, ct_5, cf_0, cf_1, cf_2, cf_3, cf_4, cf_5, w_ty6, w_ty7, m_sv, m_z0, m_hd, m_g0, m_gs, m_s0, m_ss, m_ap, m_an, forall_const, true_and, and_true, ne_eq, not_true_eq_false, not_false_eq_true, false_implies, true_implies, implies_true, eq_self, reduceCtorEq, Nat.reduceDiv, Nat.reduceMod, Int.reduceToNat, or_true, true_or, or_false, false_or, or_self, m_it, m_if, m_c1, m_01, m_02, m_03, m_04, m_10, m_12, m_13, m_14, m_20, m_21, m_23, m_24, m_30, m_31, m_32, m_34, m_40, m_41, m_42, m_43, Int.reduceLE, Int.reduceLT, Int.reduceGE, Int.reduceGT, Int.reduceNeg, Int.reduceAdd, Int.reduceSub, Int.reduceMul, Int.reduceEq, Int.reduceNe, Nat.reduceAdd, jun2, ro_0_0, ro_0_1, ro_0_2, ro_0_3, ro_0_4, ro_0_5, ro_0_6, ro_0_7, ro_0_8, ro_0_9, ro_0_10, ro_0_11, ro_0_12, ro_1_0, ro_1_1, ro_2_0, ro_4_0, ro_6_0, ro_6_1, ro_6_2, ro_6_3, ro_6_4, ro_6_5, ro_6_6, ro_6_7, ro_6_8, ro_8_0, ro_10_0, ro_12_0, ro_14_0, ro_16_0, ro_18_0, ro_20_0, ro_22_0, ro_22_1, ro_22_2, ro_23_0, ro_25_0, ro_27_0, ro_29_0, ro_29_1, ro_29_2, ro_29_3, ro_29_4, ro_29_5, ro_29_6, ro_29_7, ro_29_8, ro_31_0, ro_33_0, ro_35_0, ro_37_0, ro_39_0, ro_41_0, ro_43_0, ro_45_0, ro_45_1, ro_45_2, ro_46_0, ro_48_0, ro_50_0, ro_52_0, ro_52_1, ro_52_2, ro_52_3, ro_53_0, ro_55_0, ro_57_0, ro_59_0, ro_61_0, ro_61_1, ro_61_2, ro_61_3, ro_62_0, ro_64_0, ro_66_0, ro_68_0, ro_70_0, ro_70_1, ro_70_2, ro_70_3, ro_70_4, ro_70_5, ro_70_6, ro_70_7, ro_70_8, ro_70_9, ro_71_0, ro_73_0, ro_75_0, ro_77_0, ro_79_0, ro_81_0, ro_83_0, ro_85_0, ro_87_0, ro_89_0, ro_91_0, ro_91_1, ro_91_2, ro_91_3, ro_91_4, ro_91_5, ro_91_6, ro_91_7, ro_91_8, ro_91_9, ro_92_0, ro_94_0, ro_96_0, ro_98_0, ro_100_0, ro_102_0, ro_104_0, ro_106_0, ro_108_0, ro_110_0, ro_112_0, ro_112_1, ro_112_2, ro_112_3, ro_112_4, ro_112_5, ro_112_6, ro_112_7, ro_112_8, ro_112_9, ro_113_0, ro_115_0, ro_117_0, ro_119_0, ro_121_0, ro_123_0, ro_125_0, ro_127_0, ro_129_0, ro_131_0, ro_133_0, ro_133_1, ro_133_2, ro_133_3, ro_133_4, ro_133_5, ro_133_6, ro_133_7, ro_133_8, ro_133_9, ro_134_0, ro_136_0, ro_138_0, ro_140_0, ro_142_0, ro_144_0, ro_146_0, ro_148_0, ro_150_0, ro_152_0, ro_154_0, ro_155_0, ro_157_0, ro_157_1, ro_157_2, ro_157_3, ro_157_4, ro_157_5, ro_157_6, ro_157_7, ro_157_8, ro_157_9, ro_158_0, ro_160_0, ro_162_0, ro_164_0, ro_166_0, ro_168_0, ro_170_0, ro_172_0, ro_174_0, ro_176_0, ro_178_0, ro_180_0, ro_182_1, ro_182_4, ro_182_5, ro_182_6, ro_182_9, ro_182_10, ro_182_11, ro_182_13, ro_182_14, ro_182_15, ro_182_16, ro_182_17, ro_182_20, ro_182_21, ro_182_22, ro_182_23, ro_182_24, ro_182_26, ro_182_27, ro_182_28, lo_3, lo_5, lo_7, lo_9, lo_11, lo_13, lo_15, lo_17, lo_19, lo_21, lo_24, lo_26, lo_28, lo_30, lo_32, lo_34, lo_36, lo_38, lo_40, lo_42, lo_44, lo_47, lo_49, lo_51, lo_54, lo_56, lo_58, lo_60, lo_63, lo_65, lo_67, lo_69, lo_72, lo_74, lo_76, lo_78, lo_80, lo_82, lo_84, lo_86, lo_88, lo_90, lo_93, lo_95, lo_97, lo_99, lo_101, lo_103, lo_105, lo_107, lo_109, lo_111, lo_114, lo_116, lo_118, lo_120, lo_122, lo_124, lo_126, lo_128, lo_130, lo_132, lo_135, lo_137, lo_139, lo_141, lo_143, lo_145, lo_147, lo_149, lo_151, lo_153, lo_156, lo_159, lo_161, lo_163, lo_165, lo_167, lo_169, lo_171, lo_173, lo_175, lo_177, lo_179, lo_181, lo_183, lo_184, lo_185, lo_186, lo_187, lo_188, lo_189, lo_190, lo_191, lo_192, lo_193, lo_194, lo_195, lo_196, lo_197, lo_198, lo_199, lo_200, lo_201, lo_202, lo_203, jp_nn, jp_eq, jp_e1, Classical.not_not, ji0, ji1, ji2, cs25_64, kk_64, cs25_134, kk_134, cs25_136, kk_136, cs25_116, kk_116, jl_0, jl_1, jl_2, jl_3, jl_4, jl_5, jl_6, jl_7, jl_8, jl_9, jl_10, jl_11, jl_12, jl_13, jl_14, jl_15, jl_16, jl_17, jl_18, jl_19, jl_20, jl_21, jl_22, jl_23, jl_24, jl_25, jl_26, jl_27, jl_28, jl_29, jl_30, jl_31, jl_32, jl_33, jl_34, jl_35, jl_36, jl_37, jl_38, jl_39, jl_40, jl_95, jl_96, jl_97, jl_98, jl_99, jl_100, jl_101, jl_102, jl_103, jl_104, jl_105, jl_106, jl_107, jl_108, jl_109, jl_110, jl_111, jl_112, jl_113, jl_114, jl_186, jl_1100, jr, ju, jpT, jpF, tnc, Nat.reduceEqDiff, reduceIte, and_false, false_and, not_true_eq_false, not_false_eq_true, or_false, gt_iff_lt, ge_iff_le, Int.lt_irrefl, Int.le_refl]
    refine ⟨_, _, n1_w, n2_w, n3_w, fun h1 f1_w a1_w => ?_⟩
    have s9 : h1 6 9 = D.1 := (f1_w 6 9 (by omega)).trans d1_w.1
    rw [s9, e1_w]
    refine ⟨T, i + 1, n4_w h1 f1_w a1_w, fun f h2 e f2_w e6_w => q1_w f h2 (by simp only [ew, e, eB]) (f1_w.wk.tr f2_w.wk) e6_w, fun v j2_w h2 e f2_w v2 _ t2_w => ?_⟩
    refine ⟨T, j2_w, t2_w, fun f h3 e3_w f3_w e6_w => q1_w f h3 (by simp only [ew, e, e3_w, eB]) ((f1_w.wk.tr f2_w.wk).tr f3_w.wk) e6_w, fun u j3_w h3 e3_w f3_w v3 _ t3_w => ?_⟩
    refine ⟨L, ((ln.rd f1_w.rd).rd f2_w.1).rd f3_w.1, l30, fun h4 f4_w e4_w g4 ln4 => ?_⟩
    rw [v2, v3] at ln4
    have t4_w : TCA T j3_w h4 := TC.ft t3_w (fun o k z => f2t g4 f4_w o k z)
    exact ⟨T, j3_w, t4_w, fun f h5 e5_w f5_w e6_w => q1_w f h5 (by simp only [ew, e, e3_w, e5_w, eB]) ((((f1_w.wk.tr f2_w.wk).tr f3_w.wk).tr f4_w).tr f5_w.wk) e6_w, fun j h5 e5_w f5_w t5_w => q2_w _ j h5 (by simp only [ew, e, e3_w, e5_w, eB]) ((((f1_w.wk.tr f2_w.wk).tr f3_w.wk).tr f4_w).tr f5_w.wk) (f5_w.2.trans (e4_w.trans (f3_w.2.trans (f2_w.2.trans (f1_w 1 6 (by omega)))))) (ln4.rd f5_w.1) t5_w⟩
  · exact hQ.elim
theorem m_129 : BodyOK CS25 CS25 129 := fun av h Q hQ => by
  rw [cs25_129] at hQ
  unfold k129 kWL at hQ
  split at hQ
  · rename_i o p l
    obtain ⟨rfl, rfl, rfl, T, i, D, L, t, lt, cd, ln, l30, q1_w, q2_w⟩ := hQ
    have ew : sWE 0 T D i = eB (eB (sTold (tS T) (tP T) (tV T) wl (nmM D) (i + 1)) fun m => eB (sNum (tS T) (tP T) (tV T) 0 (lastP D m.1) m.2) fun p => eB (sNum (tS T) (tP T) (tV T) 0 (mostS D m.1) p.2) fun v => .ok ((0, m.1, p.1, v.1), v.2)) fun r => eB (sSgn (tS T) (tP T) (tV T) 59 r.2) fun j => .ok (r.1, j) := rfl
    have st : ∀ (l : List Int) (j : Nat), sTold (tS T) (tP T) (tV T) wl l j = (if ¬ isNm (tS T) (tV T) wl j then .error (er (tP T) 1 j) else if nmAt l (tV T j) < 0 then .error (er (tP T) 2 j) else .ok (nmAt l (tV T j), j + 1)) := fun _ _ => rfl
    obtain ⟨n1_w, n2_w, n3_w, n4_w⟩ := t.nx lt rfl rfl
    show pS CS25 bb_129 [1, 6, 61, 0, 0] h _
    unfold bb_129
    simp only [qe_1, qe_3, qe_4, qe_5, qe_7, qe_72, qe_10, qe_102, qe_13, qe_14, qe_15, qe_16, qe_17, qe_18, qe_20, qe_22, qe_23, qe_21, qe_24, qe_25, qe_26, qe_27, qe_28, qe_30, qe_31, qe_32, qc_20, qc_22, qc_23, qc_21, qc_24, qc_25, qc_26, qc_27, qc_1, qc_3, qc_4, qc_7, qc_13, qc_28, qc_32, qs_1, qs_2, qs_3, qs_4, qs_5, qs_6, qs_9, qs_10, qs_11, qs_14, qs_15, qs_16, qs_27, qs_17, qs_18, qs_19, qs_20, qs_22, qs_23, qs_28, qs_25, qs_26, qs_7, qs_8, kc_1, kn_1, kc_2, kn_2, kc_3, kn_3, kc_4, kn_4, kc_5, kn_5, kc_6, kn_6, kc_7, kn_7, kc_8, kn_8, kc_9, kn_9, kc_10, kn_10, kc_11, kn_11, kc_12, kn_12, kc_13, kn_13, kc_14, kn_14, kc_15, kn_15, kc_16, kc_17, kc_18, kc_19, kc_20, kc_21, kc_22, kc_23, kc_30, kc_32, kc_40, kc_43, kc_45, kc_48, kc_52, kc_56, kc_57, kc_59, kc_60, kc_61, kc_63, kc_64, kc_72, kc_78, kc_97, kc_99, kc_122, kc_126, kc_128, kc_192, kc_200, kc_255, kc_999, kc_1000, kc_9999, kn_9999, kc_10000, kc_12345, kc_65536, kc_252645135, kc_858993459, kc_1103515245, kc_1431655765, kc_2147483647, kc_0, kc_24, kc_28, kc_37, kc_41, kc_42, kc_73, kc_91, kc_95, kc_96, kc_98, kc_100, kc_112, kc_125, kc_150, kc_162, kc_163, kc_168, kc_186, kc_190, kc_250, kc_355, kc_356, kc_404, kc_405, kc_429, kc_573, kc_1002, kc_1100, kc_1891, kc_2200, kc_4719, kc_4869, kc_4881, kc_5148, kc_19741, kc_25433, kc_320403, kc_628412, kc_629093, kc_660401, kc_679843, kc_918640, kc_979410, kc_1178088, kc_6232410, kc_24644941, kc_36238189, kc_38270444, kc_392531318, kc_425693491, kc_1342154595, kc_2147483648, kc_42328242873, kc_891704255789, kc_1722105685577, kc_1858726030364, ct_0, ct_1, ct_2, ct_3, ct_4, ct_5, cf_0, cf_1, cf_2, cf_3, cf_4, cf_5, w_ty6, w_ty7, m_sv, m_z0, m_hd, m_g0, m_gs, m_s0, m_ss, m_ap, m_an, forall_const, true_and, and_true, ne_eq, not_true_eq_false, not_false_eq_true, false_implies, true_implies, implies_true, eq_self, reduceCtorEq, Nat.reduceDiv, Nat.reduceMod, Int.reduceToNat, or_true, true_or, or_false, false_or, or_self, m_it, m_if, m_c1, m_01, m_02, m_03, m_04, m_10, m_12, m_13, m_14, m_20, m_21, m_23, m_24, m_30, m_31, m_32, m_34, m_40, m_41, m_42, m_43, Int.reduceLE, Int.reduceLT, Int.reduceGE, Int.reduceGT, Int.reduceNeg, Int.reduceAdd, Int.reduceSub, Int.reduceMul, Int.reduceEq, Int.reduceNe, Nat.reduceAdd, jun2, ro_0_0, ro_0_1, ro_0_2, ro_0_3, ro_0_4, ro_0_5, ro_0_6, ro_0_7, ro_0_8, ro_0_9, ro_0_10, ro_0_11, ro_0_12, ro_1_0, ro_1_1, ro_2_0, ro_4_0, ro_6_0, ro_6_1, ro_6_2, ro_6_3, ro_6_4, ro_6_5, ro_6_6, ro_6_7, ro_6_8, ro_8_0, ro_10_0, ro_12_0, ro_14_0, ro_16_0, ro_18_0, ro_20_0, ro_22_0, ro_22_1, ro_22_2, ro_23_0, ro_25_0, ro_27_0, ro_29_0, ro_29_1, ro_29_2, ro_29_3, ro_29_4, ro_29_5, ro_29_6, ro_29_7, ro_29_8, ro_31_0, ro_33_0, ro_35_0, ro_37_0, ro_39_0, ro_41_0, ro_43_0, ro_45_0, ro_45_1, ro_45_2, ro_46_0, ro_48_0, ro_50_0, ro_52_0, ro_52_1, ro_52_2, ro_52_3, ro_53_0, ro_55_0, ro_57_0, ro_59_0, ro_61_0, ro_61_1, ro_61_2, ro_61_3, ro_62_0, ro_64_0, ro_66_0, ro_68_0, ro_70_0, ro_70_1, ro_70_2, ro_70_3, ro_70_4, ro_70_5, ro_70_6, ro_70_7, ro_70_8, ro_70_9, ro_71_0, ro_73_0, ro_75_0, ro_77_0, ro_79_0, ro_81_0, ro_83_0, ro_85_0, ro_87_0, ro_89_0, ro_91_0, ro_91_1, ro_91_2, ro_91_3, ro_91_4, ro_91_5, ro_91_6, ro_91_7, ro_91_8, ro_91_9, ro_92_0, ro_94_0, ro_96_0, ro_98_0, ro_100_0, ro_102_0, ro_104_0, ro_106_0, ro_108_0, ro_110_0, ro_112_0, ro_112_1, ro_112_2, ro_112_3, ro_112_4, ro_112_5, ro_112_6, ro_112_7, ro_112_8, ro_112_9, ro_113_0, ro_115_0, ro_117_0, ro_119_0, ro_121_0, ro_123_0, ro_125_0, ro_127_0, ro_129_0, ro_131_0, ro_133_0, ro_133_1, ro_133_2, ro_133_3, ro_133_4, ro_133_5, ro_133_6, ro_133_7, ro_133_8, ro_133_9, ro_134_0, ro_136_0, ro_138_0, ro_140_0, ro_142_0, ro_144_0, ro_146_0, ro_148_0, ro_150_0, ro_152_0, ro_154_0, ro_155_0, ro_157_0, ro_157_1, ro_157_2, ro_157_3, ro_157_4, ro_157_5, ro_157_6, ro_157_7, ro_157_8, ro_157_9, ro_158_0, ro_160_0, ro_162_0, ro_164_0, ro_166_0, ro_168_0, ro_170_0, ro_172_0, ro_174_0, ro_176_0, ro_178_0, ro_180_0, ro_182_1, ro_182_4, ro_182_5, ro_182_6, ro_182_9, ro_182_10, ro_182_11, ro_182_13, ro_182_14, ro_182_15, ro_182_16, ro_182_17, ro_182_20, ro_182_21, ro_182_22, ro_182_23, ro_182_24, ro_182_26, ro_182_27, ro_182_28, lo_3, lo_5, lo_7, lo_9, lo_11, lo_13, lo_15, lo_17, lo_19, lo_21, lo_24, lo_26, lo_28, lo_30, lo_32, lo_34, lo_36, lo_38, lo_40, lo_42, lo_44, lo_47, lo_49, lo_51, lo_54, lo_56, lo_58, lo_60, lo_63, lo_65, lo_67, lo_69, lo_72, lo_74, lo_76, lo_78, lo_80, lo_82, lo_84, lo_86, lo_88, lo_90, lo_93, lo_95, lo_97, lo_99, lo_101, lo_103, lo_105, lo_107, lo_109, lo_111, lo_114, lo_116, lo_118, lo_120, lo_122, lo_124, lo_126, lo_128, lo_130, lo_132, lo_135, lo_137, lo_139, lo_141, lo_143, lo_145, lo_147, lo_149, lo_151, lo_153, lo_156, lo_159, lo_161, lo_163, lo_165, lo_167, lo_169, lo_171, lo_173, lo_175, lo_177, lo_179, lo_181, lo_183, lo_184, lo_185, lo_186, lo_187, lo_188, lo_189, lo_190, lo_191, lo_192, lo_193, lo_194, lo_195, lo_196, lo_197, lo_198, lo_199, lo_200, lo_201, lo_202, lo_203, jp_nn, jp_eq, jp_e1, Classical.not_not, ji0, ji1, ji2, cs25_64, kk_64, cs25_134, kk_134, cs25_136, kk_136, cs25_138, kk_138, cs25_139, kk_139, cs25_104, kk_104, cs25_113, kk_113, cs25_114, kk_114, cs25_116, kk_116, jl_0, jl_1, jl_2, jl_3, jl_4, jl_5, jl_6, jl_7, jl_8, jl_9, jl_10, jl_11, jl_12, jl_13, jl_14, jl_15, jl_16, jl_17, jl_18, jl_19, jl_20, jl_21, jl_22, jl_23, jl_24, jl_25, jl_26, jl_27, jl_28, jl_29, jl_30, jl_31, jl_32, jl_33, jl_34, jl_35, jl_36, jl_37, jl_38, jl_39, jl_40, jl_95, jl_96, jl_97, jl_98, jl_99, jl_100, jl_101, jl_102, jl_103, jl_104, jl_105, jl_106, jl_107, jl_108, jl_109, jl_110, jl_111, jl_112, jl_113, jl_114, jl_186, jl_1100, jr, ju, jpT, jpF, tnc, Nat.reduceEqDiff, reduceIte, and_false, false_and, not_true_eq_false, not_false_eq_true, or_false, gt_iff_lt, ge_iff_le, Int.lt_irrefl, Int.le_refl]
    refine ⟨_, _, n1_w, n2_w, n3_w, fun h1 f1_w a1_w => ⟨T, i + 1, n4_w h1 f1_w a1_w, fun h2 nm f2_w e6_w => q1_w _ h2 (by simp only [ew, eB, st, if_pos nm]) (f1_w.wk.tr f2_w.wk) e6_w, fun h2 nm f2_w k2 w2_w t2_w => ?_⟩⟩
    have cd2 : CDw 6 D h2 := cd.wk (f1_w.wk.tr f2_w.wk)
    have lt2 : i + 1 < T.2.1 := t2_w.lt (by rw [nm.1]; decide)
    refine ⟨Or.inl rfl, D, tV T (i + 1), cd2.1, k2, w2_w, T, i + 1, t2_w, lt2, fun h3 x3 f3_w e6_w => q1_w _ h3 (by simp only [ew, eB, st, if_neg (fun z => z nm : ¬ ¬ isNm (tS T) (tV T) wl (i + 1)), nmM, if_pos (nm_ng.mp x3)]) ((f1_w.wk.tr f2_w.wk).tr f3_w.wk) e6_w, fun h3 x3 f3_w v3 k3 _ t3_w => ?_⟩
    have g3_w : FWk h h3 := (f1_w.wk.tr f2_w.wk).tr f3_w.wk
    have e3_w : sTold (tS T) (tP T) (tV T) wl (nmM D) (i + 1) = .ok (nmAt (nmM D) (tV T (i + 1)), i + 1 + 1) := by
      have x3' : ¬ nmAt (nmM D) (tV T (i + 1)) = -1 := x3
      rw [st, if_neg (fun z => z nm), if_neg (fun z => x3' (nm_ng.mpr z))]
    have nb := nm_in x3
    have nl : (nmM D).length = D.2.2.2.2.1.length := List.length_map ..
    have vn : h3 1 4 = (((nmAt (nmM D) (tV T (i + 1))).toNat : Nat) : Int) := by
      rw [v3]
      show nmAt (nmM D) (tV T (i + 1)) = _
      have : 0 ≤ nmAt (nmM D) (tV T (i + 1)) := nb.1
      omega
    have ln3 : (nmAt (nmM D) (tV T (i + 1))).toNat < D.2.2.2.2.1.length := by
      have a : 0 ≤ nmAt (nmM D) (tV T (i + 1)) := nb.1
      have b : nmAt (nmM D) (tV T (i + 1)) < ((nmM D).length : Int) := nb.2
      omega
    have vm_w : h3 1 4 = nmAt (nmM D) (tV T (i + 1)) := v3
    refine ⟨D, _, cd.wk g3_w, vn, ln3, T, i + 1 + 1, t3_w, fun f h4 e4_w f4_w e6_w => q1_w f h4 (by rw [vm_w] at e4_w; simp only [ew, e3_w, e4_w, eB]) (g3_w.tr f4_w.wk) e6_w, fun p j4_w h4 e4_w f4_w v4_w _ t4_w => ?_⟩
    have g4 : FWk h h4 := g3_w.tr f4_w.wk
    rw [vm_w] at e4_w
    refine ⟨D, _, cd.wk g4, vn, ln3, T, j4_w, t4_w, fun f h5 e5_w f5_w e6_w => q1_w f h5 (by rw [vm_w] at e5_w; simp only [ew, e3_w, e4_w, e5_w, eB]) (g4.tr f5_w.wk) e6_w, fun v j5_w h5 e5_w f5_w v5 _ t5_w => ?_⟩
    have g5_w : FWk h h5 := g4.tr f5_w.wk
    rw [vm_w] at e5_w
    refine ⟨L, ((((ln.rd f1_w.rd).rd f2_w.1).rd f3_w.1).rd f4_w.1).rd f5_w.1, l30, fun h6 f6_w e6' g6 ln6 => ?_⟩
    rw [vm_w, v4_w, v5] at ln6
    have t6 : TCA T j5_w h6 := TC.ft t5_w (fun o k z => f2t g6 f6_w o k z)
    exact ⟨T, j5_w, t6, fun f h7 e7_w f7_w e6_w => q1_w f h7 (by simp only [ew, e3_w, e4_w, e5_w, e7_w, eB]) ((g5_w.tr f6_w).tr f7_w.wk) e6_w, fun j h7 e7_w f7_w t7 => q2_w _ j h7 (by simp only [ew, e3_w, e4_w, e5_w, e7_w, eB]) ((g5_w.tr f6_w).tr f7_w.wk) (f7_w.2.trans (e6'.trans (f5_w.2.trans (f4_w.2.trans (f3_w.2.trans (f2_w.2.trans (f1_w 1 6 (by omega)))))))) (ln6.rd f7_w.1) t7⟩
  · exact hQ.elim
theorem m_130 : BodyOK CS25 CS25 130 := fun av h Q hQ => by
  rw [cs25_130] at hQ
  unfold k130 kWL at hQ
  split at hQ
  · rename_i o p l
    obtain ⟨rfl, rfl, rfl, T, i, D, L, t, lt, cd, ln, l30, q1_w, q2_w⟩ := hQ
    have ew : sWE 1 T D i = eB (eB (sTold (tS T) (tP T) (tV T) wl (nmM D) (i + 1)) fun m => eB (sTold (tS T) (tP T) (tV T) wl D.2.2.2.1 m.2) fun s => eB (sNum (tS T) (tP T) (tV T) 0 (D.1 - 1) s.2) fun t => .ok ((1, m.1, s.1, t.1), t.2)) fun r => eB (sSgn (tS T) (tP T) (tV T) 59 r.2) fun j => .ok (r.1, j) := rfl
    have st : ∀ (l : List Int) (j : Nat), sTold (tS T) (tP T) (tV T) wl l j = (if ¬ isNm (tS T) (tV T) wl j then .error (er (tP T) 1 j) else if nmAt l (tV T j) < 0 then .error (er (tP T) 2 j) else .ok (nmAt l (tV T j), j + 1)) := fun _ _ => rfl
    obtain ⟨n1_w, n2_w, n3_w, n4_w⟩ := t.nx lt rfl rfl
    have d1_w := cd.2.1
    have e1_w : j32 (D.1 - 1) = D.1 - 1 := j32_id (by omega) (by omega)
    show pS CS25 bb_130 [1, 6, 61, 0] h _
    unfold bb_130
    simp only [qe_1, qe_3, qe_4, qe_5, qe_7, qe_72, qe_10, qe_102, qe_13, qe_14, qe_15, qe_16, qe_17, qe_18, qe_20, qe_22, qe_23, qe_21, qe_24, qe_25, qe_26, qe_27, qe_28, qe_30, qe_31, qe_32, qc_20, qc_22, qc_23, qc_21, qc_24, qc_25, qc_26, qc_27, qc_1, qc_3, qc_4, qc_7, qc_13, qc_28, qc_32, qs_1, qs_2, qs_3, qs_4, qs_5, qs_6, qs_9, qs_10, qs_11, qs_14, qs_15, qs_16, qs_27, qs_17, qs_18, qs_19, qs_20, qs_22, qs_23, qs_28, qs_25, qs_26, qs_7, qs_8, kc_1, kn_1, kc_2, kn_2, kc_3, kn_3, kc_4, kn_4, kc_5, kn_5, kc_6, kn_6, kc_7, kn_7, kc_8, kn_8, kc_9, kn_9, kc_10, kn_10, kc_11, kn_11, kc_12, kn_12, kc_13, kn_13, kc_14, kn_14, kc_15, kn_15, kc_16, kc_17, kc_18, kc_19, kc_20, kc_21, kc_22, kc_23, kc_30, kc_32, kc_40, kc_43, kc_45, kc_48, kc_52, kc_56, kc_57, kc_59, kc_60, kc_61, kc_63, kc_64, kc_72, kc_78, kc_97, kc_99, kc_122, kc_126, kc_128, kc_192, kc_200, kc_255, kc_999, kc_1000, kc_9999, kn_9999, kc_10000, kc_12345, kc_65536, kc_252645135, kc_858993459, kc_1103515245, kc_1431655765, kc_2147483647, kc_0, kc_24, kc_28, kc_37, kc_41, kc_42, kc_73, kc_91, kc_95, kc_96, kc_98, kc_100, kc_112, kc_125, kc_150, kc_162, kc_163, kc_168, kc_186, kc_190, kc_250, kc_355, kc_356, kc_404, kc_405, kc_429, kc_573, kc_1002, kc_1100, kc_1891, kc_2200, kc_4719, kc_4869, kc_4881, kc_5148, kc_19741, kc_25433, kc_320403, kc_628412, kc_629093, kc_660401, kc_679843, kc_918640, kc_979410, kc_1178088, kc_6232410, kc_24644941, kc_36238189, kc_38270444, kc_392531318, kc_425693491, kc_1342154595, kc_2147483648, kc_42328242873, kc_891704255789, kc_1722105685577, kc_1858726030364, ct_0, ct_1, ct_2, ct_3, ct_4, ct_5, cf_0, cf_1, cf_2, cf_3, cf_4, cf_5, w_ty6, w_ty7, m_sv, m_z0, m_hd, m_g0, m_gs, m_s0, m_ss, m_ap, m_an, forall_const, true_and, and_true, ne_eq, not_true_eq_false, not_false_eq_true, false_implies, true_implies, implies_true, eq_self, reduceCtorEq, Nat.reduceDiv, Nat.reduceMod, Int.reduceToNat, or_true, true_or, or_false, false_or, or_self, m_it, m_if, m_c1, m_01, m_02, m_03, m_04, m_10, m_12, m_13, m_14, m_20, m_21, m_23, m_24, m_30, m_31, m_32, m_34, m_40, m_41, m_42, m_43, Int.reduceLE, Int.reduceLT, Int.reduceGE, Int.reduceGT, Int.reduceNeg, Int.reduceAdd, Int.reduceSub, Int.reduceMul, Int.reduceEq, Int.reduceNe, Nat.reduceAdd, jun2, ro_0_0, ro_0_1, ro_0_2, ro_0_3, ro_0_4, ro_0_5, ro_0_6, ro_0_7, ro_0_8, ro_0_9, ro_0_10, ro_0_11, ro_0_12, ro_1_0, ro_1_1, ro_2_0, ro_4_0, ro_6_0, ro_6_1, ro_6_2, ro_6_3, ro_6_4, ro_6_5, ro_6_6, ro_6_7, ro_6_8, ro_8_0, ro_10_0, ro_12_0, ro_14_0, ro_16_0, ro_18_0, ro_20_0, ro_22_0, ro_22_1, ro_22_2, ro_23_0, ro_25_0, ro_27_0, ro_29_0, ro_29_1, ro_29_2, ro_29_3, ro_29_4, ro_29_5, ro_29_6, ro_29_7, ro_29_8, ro_31_0, ro_33_0, ro_35_0, ro_37_0, ro_39_0, ro_41_0, ro_43_0, ro_45_0, ro_45_1, ro_45_2, ro_46_0, ro_48_0, ro_50_0, ro_52_0, ro_52_1, ro_52_2, ro_52_3, ro_53_0, ro_55_0, ro_57_0, ro_59_0, ro_61_0, ro_61_1, ro_61_2, ro_61_3, ro_62_0, ro_64_0, ro_66_0, ro_68_0, ro_70_0, ro_70_1, ro_70_2, ro_70_3, ro_70_4, ro_70_5, ro_70_6, ro_70_7, ro_70_8, ro_70_9, ro_71_0, ro_73_0, ro_75_0, ro_77_0, ro_79_0, ro_81_0, ro_83_0, ro_85_0, ro_87_0, ro_89_0, ro_91_0, ro_91_1, ro_91_2, ro_91_3, ro_91_4, ro_91_5, ro_91_6, ro_91_7, ro_91_8, ro_91_9, ro_92_0, ro_94_0, ro_96_0, ro_98_0, ro_100_0, ro_102_0, ro_104_0, ro_106_0, ro_108_0, ro_110_0, ro_112_0, ro_112_1, ro_112_2, ro_112_3, ro_112_4, ro_112_5, ro_112_6, ro_112_7, ro_112_8, ro_112_9, ro_113_0, ro_115_0, ro_117_0, ro_119_0, ro_121_0, ro_123_0, ro_125_0, ro_127_0, ro_129_0, ro_131_0, ro_133_0, ro_133_1, ro_133_2, ro_133_3, ro_133_4, ro_133_5, ro_133_6, ro_133_7, ro_133_8, ro_133_9, ro_134_0, ro_136_0, ro_138_0, ro_140_0, ro_142_0, ro_144_0, ro_146_0, ro_148_0, ro_150_0, ro_152_0, ro_154_0, ro_155_0, ro_157_0, ro_157_1, ro_157_2, ro_157_3, ro_157_4, ro_157_5, ro_157_6, ro_157_7, ro_157_8, ro_157_9, ro_158_0, ro_160_0, ro_162_0, ro_164_0, ro_166_0, ro_168_0, ro_170_0, ro_172_0, ro_174_0, ro_176_0, ro_178_0, ro_180_0, ro_182_1, ro_182_4, ro_182_5, ro_182_6, ro_182_9, ro_182_10, ro_182_11, ro_182_13, ro_182_14, ro_182_15, ro_182_16, ro_182_17, ro_182_20, ro_182_21, ro_182_22, ro_182_23, ro_182_24, ro_182_26, ro_182_27, ro_182_28, lo_3, lo_5, lo_7, lo_9, lo_11, lo_13, lo_15, lo_17, lo_19, lo_21, lo_24, lo_26, lo_28, lo_30, lo_32, lo_34, lo_36, lo_38, lo_40, lo_42, lo_44, lo_47, lo_49, lo_51, lo_54, lo_56, lo_58, lo_60, lo_63, lo_65, lo_67, lo_69, lo_72, lo_74, lo_76, lo_78, lo_80, lo_82, lo_84, lo_86, lo_88, lo_90, lo_93, lo_95, lo_97, lo_99, lo_101, lo_103, lo_105, lo_107, lo_109, lo_111, lo_114, lo_116, lo_118, lo_120, lo_122, lo_124, lo_126, lo_128, lo_130, lo_132, lo_135, lo_137, lo_139, lo_141, lo_143, lo_145, lo_147, lo_149, lo_151, lo_153, lo_156, lo_159, lo_161, lo_163, lo_165, lo_167, lo_169, lo_171, lo_173, lo_175, lo_177, lo_179, lo_181, lo_183, lo_184, lo_185, lo_186, lo_187, lo_188, lo_189, lo_190, lo_191, lo_192, lo_193, lo_194, lo_195, lo_196, lo_197, lo_198, lo_199, lo_200, lo_201, lo_202, lo_203, jp_nn, jp_eq, jp_e1, Classical.not_not, ji0, ji1, ji2, cs25_64, kk_64, cs25_134, kk_134, cs25_136, kk_136, cs25_138, kk_138, cs25_139, kk_139, cs25_103, kk_103, cs25_104, kk_104, cs25_116, kk_116, jl_0, jl_1, jl_2, jl_3, jl_4, jl_5, jl_6, jl_7, jl_8, jl_9, jl_10, jl_11, jl_12, jl_13, jl_14, jl_15, jl_16, jl_17, jl_18, jl_19, jl_20, jl_21, jl_22, jl_23, jl_24, jl_25, jl_26, jl_27, jl_28, jl_29, jl_30, jl_31, jl_32, jl_33, jl_34, jl_35, jl_36, jl_37, jl_38, jl_39, jl_40, jl_95, jl_96, jl_97, jl_98, jl_99, jl_100, jl_101, jl_102, jl_103, jl_104, jl_105, jl_106, jl_107, jl_108, jl_109, jl_110, jl_111, jl_112, jl_113, jl_114, jl_186, jl_1100, jr, ju, jpT, jpF, tnc, Nat.reduceEqDiff, reduceIte, and_false, false_and, not_true_eq_false, not_false_eq_true, or_false, gt_iff_lt, ge_iff_le, Int.lt_irrefl, Int.le_refl]
    refine ⟨_, _, n1_w, n2_w, n3_w, fun h1 f1_w a1_w => ⟨T, i + 1, n4_w h1 f1_w a1_w, fun h2 nm f2_w e6_w => q1_w _ h2 (by simp only [ew, eB, st, if_pos nm]) (f1_w.wk.tr f2_w.wk) e6_w, fun h2 nm f2_w k2 w2_w t2_w => ?_⟩⟩
    have cd2 : CDw 6 D h2 := cd.wk (f1_w.wk.tr f2_w.wk)
    have lt2 : i + 1 < T.2.1 := t2_w.lt (by rw [nm.1]; decide)
    refine ⟨Or.inl rfl, D, tV T (i + 1), cd2.1, k2, w2_w, T, i + 1, t2_w, lt2, fun h3 x3 f3_w e6_w => q1_w _ h3 (by simp only [ew, eB, st, if_neg (fun z => z nm : ¬ ¬ isNm (tS T) (tV T) wl (i + 1)), nmM, if_pos (nm_ng.mp x3)]) ((f1_w.wk.tr f2_w.wk).tr f3_w.wk) e6_w, fun h3 x3 f3_w v3 k3 _ t3_w => ?_⟩
    have g3_w : FWk h h3 := (f1_w.wk.tr f2_w.wk).tr f3_w.wk
    have e3_w : sTold (tS T) (tP T) (tV T) wl (nmM D) (i + 1) = .ok (nmAt (nmM D) (tV T (i + 1)), i + 1 + 1) := by
      have x3' : ¬ nmAt (nmM D) (tV T (i + 1)) = -1 := x3
      rw [st, if_neg (fun z => z nm), if_neg (fun z => x3' (nm_ng.mpr z))]
    have vm_w : h3 1 4 = nmAt (nmM D) (tV T (i + 1)) := v3
    refine ⟨T, i + 1 + 1, t3_w, fun h4 nm4 f4_w e6_w => q1_w _ h4 (by simp only [ew, e3_w, eB, st, if_pos nm4]) (g3_w.tr f4_w.wk) e6_w, fun h4 nm4 f4_w k4 w4_w t4_w => ?_⟩
    have g4 : FWk h h4 := g3_w.tr f4_w.wk
    have lt4 : i + 1 + 1 < T.2.1 := t4_w.lt (by rw [nm4.1]; decide)
    refine ⟨Or.inl rfl, D, tV T (i + 1 + 1), (cd.wk g4).1, k4, w4_w, T, i + 1 + 1, t4_w, lt4, fun h5 x5_w f5_w e6_w => q1_w _ h5 (by simp only [ew, e3_w, eB, st, if_neg (fun z => z nm4 : ¬ ¬ isNm (tS T) (tV T) wl (i + 1 + 1)), if_pos (nm_ng.mp x5_w)]) (g4.tr f5_w.wk) e6_w, fun h5 x5_w f5_w v5 k5 _ t5_w => ?_⟩
    have g5_w : FWk h h5 := g4.tr f5_w.wk
    have e5_w : sTold (tS T) (tP T) (tV T) wl D.2.2.2.1 (i + 1 + 1) = .ok (nmAt D.2.2.2.1 (tV T (i + 1 + 1)), i + 1 + 1 + 1) := by
      rw [st, if_neg (fun z => z nm4), if_neg (fun z => x5_w (nm_ng.mpr z))]
    have s9 : h5 6 9 = D.1 := (g5_w 6 9 (by omega)).trans d1_w.1
    rw [s9, e1_w]
    refine ⟨T, i + 1 + 1 + 1, t5_w, fun f h6 e6_w f6_w e6' => q1_w f h6 (by simp only [ew, e3_w, e5_w, e6_w, eB]) (g5_w.tr f6_w.wk) e6', fun v j6_w h6 e6_w f6_w v6 k6 t6 => ?_⟩
    have g6 : FWk h h6 := g5_w.tr f6_w.wk
    have u4_w : h6 1 4 = nmAt D.2.2.2.1 (tV T (i + 1 + 1)) := k6.2.trans v5
    refine ⟨L, (((((ln.rd f1_w.rd).rd f2_w.1).rd f3_w.1).rd f4_w.1).rd f5_w.1).rd f6_w.1, l30, fun h7 f7_w e7' g7 ln7 => ?_⟩
    rw [vm_w, u4_w, v6] at ln7
    have t7 : TCA T j6_w h7 := TC.ft t6 (fun o k z => f2t g7 f7_w o k z)
    exact ⟨T, j6_w, t7, fun f h8 e8 f8_w e6' => q1_w f h8 (by simp only [ew, e3_w, e5_w, e6_w, e8, eB]) ((g6.tr f7_w).tr f8_w.wk) e6', fun j h8 e8 f8_w t8 => q2_w _ j h8 (by simp only [ew, e3_w, e5_w, e6_w, e8, eB]) ((g6.tr f7_w).tr f8_w.wk) (f8_w.2.trans (e7'.trans (f6_w.2.trans (f5_w.2.trans (f4_w.2.trans (f3_w.2.trans (f2_w.2.trans (f1_w 1 6 (by omega))))))))) (ln7.rd f8_w.1) t8⟩
  · exact hQ.elim
theorem snd_25 {xs : Nat → Int} {L K : Nat} : ∀ n, SndC CS25 (evF xs L g_ck K g_cW g_M n) := snd_all snd_24 (fun f av h Q hQ => by
  unfold CS25 at hQ
  split at hQ
  · exact Or.inr m_113
  · exact Or.inr m_114
  · exact Or.inr m_116
  · exact Or.inr m_117
  · exact Or.inr m_121
  · exact Or.inr m_129
  · exact Or.inr m_130
  · exact Or.inr m_131
  · exact Or.inr m_132
  · exact Or.inl hQ)
end
section
/-! ===== contracts: the class's work ===== -/
/-- what a work may_w change in the class -/
def FWx (h h' : XH) : Prop := ∀ o k : Nat, ¬ ((o = 2 ∧ 1 ≤ k) ∨ (o = 1 ∧ 2 ≤ k ∧ k ≤ 6) ∨ o = 63 ∨ o = 65 ∨ o = 67 ∨ o = 69 ∨ (o = 61 ∧ k = 4) ∨ o = 54 ∨ o = 56 ∨ o = 58 ∨ o = 60 ∨ (o = 52 ∧ k = 4)) → h' o k = h o k
def k120 : KT := fun av h Q => match av with
  | [o, p, l] => o = 1 ∧ p = 6 ∧ l = 61 ∧ ∃ (T : TA) (D : DD), T.2.1 ≤ 1000 ∧ BYT T.1 h ∧ TOK (h 3) T.1 T.2.1 (tS T) (tP T) (tV T) ∧ CDw 6 D h ∧ (∀ f h', sWork (tS T) (tP T) (tV T) wl D 32 [] 0 = .error f → FWk h h' → Q 1 [f] h') ∧ (∀ L h', sWork (tS T) (tP T) (tV T) wl D 32 [] 0 = .ok L → FWk h h' → LNS 61 L h' → Q 1 [0] h')
  | _ => False
def k4 : KT := fun av h Q => match av with
  | [o] => o = 0 ∧ ∃ (T : TA) (D : DD), T.2.1 ≤ 1000 ∧ BYT T.1 h ∧ TOK (h 3) T.1 T.2.1 (tS T) (tP T) (tV T) ∧ CDw 6 D h ∧ (∀ f, sWork (tS T) (tP T) (tV T) wl D 32 [] 0 = .error f → f ≠ 0) ∧ (∀ f h', sWork (tS T) (tP T) (tV T) wl D 32 [] 0 = .error f → FWx h h' → (∀ k, h' 52 k = h 52 k) → (∀ o k : Nat, o = 54 ∨ o = 56 ∨ o = 58 ∨ o = 60 → h' o k = h o k) → h' 2 1 = 0 → Q 1 [f] h') ∧ (∀ L h', sWork (tS T) (tP T) (tV T) wl D 32 [] 0 = .ok L → FWx h h' → LNS 52 L h' → h' 2 1 = 0 → Q 1 [0] h')
  | _ => False
section KKF6
variable {h h1 h2 h' : XH} {Q : Nat → List Int → XH → Prop} {D : DD} {T : TA} {i j k : Nat} {L : List LX}
theorem kk_120 : k120 [1, 6, 61] h Q = ∃ (T : TA) (D : DD), T.2.1 ≤ 1000 ∧ BYT T.1 h ∧ TOK (h 3) T.1 T.2.1 (tS T) (tP T) (tV T) ∧ CDw 6 D h ∧ (∀ f h', sWork (tS T) (tP T) (tV T) wl D 32 [] 0 = .error f → FWk h h' → Q 1 [f] h') ∧ (∀ L h', sWork (tS T) (tP T) (tV T) wl D 32 [] 0 = .ok L → FWk h h' → LNS 61 L h' → Q 1 [0] h') := propext ⟨fun a => a.2.2.2, fun a => ⟨rfl, rfl, rfl, a⟩⟩
theorem kk_4 : k4 [0] h Q = ∃ (T : TA) (D : DD), T.2.1 ≤ 1000 ∧ BYT T.1 h ∧ TOK (h 3) T.1 T.2.1 (tS T) (tP T) (tV T) ∧ CDw 6 D h ∧ (∀ f, sWork (tS T) (tP T) (tV T) wl D 32 [] 0 = .error f → f ≠ 0) ∧ (∀ f h', sWork (tS T) (tP T) (tV T) wl D 32 [] 0 = .error f → FWx h h' → (∀ k, h' 52 k = h 52 k) → (∀ o k : Nat, o = 54 ∨ o = 56 ∨ o = 58 ∨ o = 60 → h' o k = h o k) → h' 2 1 = 0 → Q 1 [f] h') ∧ (∀ L h', sWork (tS T) (tP T) (tV T) wl D 32 [] 0 = .ok L → FWx h h' → LNS 52 L h' → h' 2 1 = 0 → Q 1 [0] h') := propext ⟨fun a => a.2, fun a => ⟨rfl, a⟩⟩
def sWy (T : TA) (D : DD) (n i : Nat) : XZ (LX × Nat) := eB (sWx (tS T) (tP T) (tV T) wl D n i) fun r => eB (sSgn (tS T) (tP T) (tV T) 59 r.2) fun j => .ok (r.1, j)
theorem sWork_s (h : tS T i ≠ 0) : sWork (tS T) (tP T) (tV T) wl D (k + 1) L i = eB (sWy T D L.length i) fun r => sWork (tS T) (tP T) (tV T) wl D k (L ++ [r.1]) r.2 := by
  rw [sWork, if_neg h]
  show _ = eB (eB (sWx (tS T) (tP T) (tV T) wl D L.length i) fun r => eB (sSgn (tS T) (tP T) (tV T) 59 r.2) fun j => .ok (r.1, j)) _
  rw [eB_as]
  refine eB_cg fun a _ => ?_
  rw [eB_as]
  rfl
/-- which of the words of a work stands here_w -/
theorem TCA.wk4 (t : TCA T i h) : wHere (tS T) (tV T) wl 9 4 i = if wrd (h 2 3) (h 2 6) = 9 then 0 else if wrd (h 2 3) (h 2 6) = 10 then 1 else if wrd (h 2 3) (h 2 6) = 11 then 2 else if wrd (h 2 3) (h 2 6) = 12 then 3 else -1 := by
  have a9 : wrd (h 2 3) (h 2 6) = 9 ↔ sWd (tS T) (tV T) wl 9 i := t.wd (w := 9) (by decide)
  have a10 : wrd (h 2 3) (h 2 6) = 10 ↔ sWd (tS T) (tV T) wl 10 i := t.wd (w := 10) (by decide)
  have a11 : wrd (h 2 3) (h 2 6) = 11 ↔ sWd (tS T) (tV T) wl 11 i := t.wd (w := 11) (by decide)
  have a12 : wrd (h 2 3) (h 2 6) = 12 ↔ sWd (tS T) (tV T) wl 12 i := t.wd (w := 12) (by decide)
  unfold wHere
  simp only [lst, decide_eq_true_eq]
  show (if sWd (tS T) (tV T) wl 12 i then (3 : Int) else if sWd (tS T) (tV T) wl 11 i then 2 else if sWd (tS T) (tV T) wl 10 i then 1 else if sWd (tS T) (tV T) wl 9 i then 0 else -1) = _
  simp only [← a9, ← a10, ← a11, ← a12]
  generalize wrd (h 2 3) (h 2 6) = w
  by_cases y9 : w = 9
  · subst y9; decide
  · rw [if_neg y9]
    by_cases y10 : w = 10
    · subst y10; decide
    · rw [if_neg y10]
      by_cases y11 : w = 11
      · subst y11; decide
      · rw [if_neg y11]
        by_cases y12 : w = 12
        · subst y12; decide
        · simp only [y9, y10, y11, y12, if_false]
def WIV (T : TA) (D : DD) (h : XH) (en : List Int) (h1 : XH) : Prop := ∃ (w : Int) (b k : Int), en = [1, 6, 61, b, k, w] ∧ FWk h h1 ∧ ((b = 1 ∧ ∃ (i : Nat) (L : List LX), k = (L.length : Int) ∧ TCA T i h1 ∧ LNS 61 L h1 ∧ h1 1 6 = 0 ∧ sWork (tS T) (tP T) (tV T) wl D 32 [] 0 = sWork (tS T) (tP T) (tV T) wl D (32 - L.length) L i) ∨ (b = 0 ∧ (0 ≤ k ∧ k ≤ 1000) ∧ sWork (tS T) (tP T) (tV T) wl D 32 [] 0 = .error (h1 1 6)))
end KKF6
def CS26 : CSt := fun f => match f with
  | 120 => k120
  | 4 => k4
  | _ => CS25 f
theorem cs26_54 {av : List Int} {h : XH} {Q : Nat → List Int → XH → Prop} : CS26 54 av h Q = k54 av h Q := id rfl
theorem cs26_55 {av : List Int} {h : XH} {Q : Nat → List Int → XH → Prop} : CS26 55 av h Q = k55 av h Q := id rfl
theorem cs26_68 {av : List Int} {h : XH} {Q : Nat → List Int → XH → Prop} : CS26 68 av h Q = k68 av h Q := id rfl
theorem cs26_69 {av : List Int} {h : XH} {Q : Nat → List Int → XH → Prop} : CS26 69 av h Q = k69 av h Q := id rfl
theorem cs26_70 {av : List Int} {h : XH} {Q : Nat → List Int → XH → Prop} : CS26 70 av h Q = k70 av h Q := id rfl
theorem cs26_71 {av : List Int} {h : XH} {Q : Nat → List Int → XH → Prop} : CS26 71 av h Q = k71 av h Q := id rfl
theorem cs26_72 {av : List Int} {h : XH} {Q : Nat → List Int → XH → Prop} : CS26 72 av h Q = k72 av h Q := id rfl
theorem cs26_73 {av : List Int} {h : XH} {Q : Nat → List Int → XH → Prop} : CS26 73 av h Q = k73 av h Q := id rfl
theorem cs26_74 {av : List Int} {h : XH} {Q : Nat → List Int → XH → Prop} : CS26 74 av h Q = k74 av h Q := id rfl
theorem cs26_75 {av : List Int} {h : XH} {Q : Nat → List Int → XH → Prop} : CS26 75 av h Q = k75 av h Q := id rfl
theorem cs26_186 {av : List Int} {h : XH} {Q : Nat → List Int → XH → Prop} : CS26 186 av h Q = k186 av h Q := id rfl
theorem cs26_187 {av : List Int} {h : XH} {Q : Nat → List Int → XH → Prop} : CS26 187 av h Q = k187 av h Q := id rfl
theorem cs26_188 {av : List Int} {h : XH} {Q : Nat → List Int → XH → Prop} : CS26 188 av h Q = k188 av h Q := id rfl
theorem cs26_189 {av : List Int} {h : XH} {Q : Nat → List Int → XH → Prop} : CS26 189 av h Q = k189 av h Q := id rfl
theorem cs26_191 {av : List Int} {h : XH} {Q : Nat → List Int → XH → Prop} : CS26 191 av h Q = k191 av h Q := id rfl
theorem cs26_192 {av : List Int} {h : XH} {Q : Nat → List Int → XH → Prop} : CS26 192 av h Q = k192 av h Q := id rfl
theorem cs26_193 {av : List Int} {h : XH} {Q : Nat → List Int → XH → Prop} : CS26 193 av h Q = k193 av h Q := id rfl
theorem cs26_198 {av : List Int} {h : XH} {Q : Nat → List Int → XH → Prop} : CS26 198 av h Q = k198 av h Q := id rfl
theorem cs26_207 {av : List Int} {h : XH} {Q : Nat → List Int → XH → Prop} : CS26 207 av h Q = k207 av h Q := id rfl
theorem cs26_195 {av : List Int} {h : XH} {Q : Nat → List Int → XH → Prop} : CS26 195 av h Q = k195 av h Q := id rfl
theorem cs26_196 {av : List Int} {h : XH} {Q : Nat → List Int → XH → Prop} : CS26 196 av h Q = k196 av h Q := id rfl
theorem cs26_201 {av : List Int} {h : XH} {Q : Nat → List Int → XH → Prop} : CS26 201 av h Q = k201 av h Q := id rfl
theorem cs26_203 {av : List Int} {h : XH} {Q : Nat → List Int → XH → Prop} : CS26 203 av h Q = k203 av h Q := id rfl
theorem cs26_204 {av : List Int} {h : XH} {Q : Nat → List Int → XH → Prop} : CS26 204 av h Q = k204 av h Q := id rfl
theorem cs26_194 {av : List Int} {h : XH} {Q : Nat → List Int → XH → Prop} : CS26 194 av h Q = k194 av h Q := id rfl
theorem cs26_197 {av : List Int} {h : XH} {Q : Nat → List Int → XH → Prop} : CS26 197 av h Q = k197 av h Q := id rfl
theorem cs26_200 {av : List Int} {h : XH} {Q : Nat → List Int → XH → Prop} : CS26 200 av h Q = k200 av h Q := id rfl
theorem cs26_202 {av : List Int} {h : XH} {Q : Nat → List Int → XH → Prop} : CS26 202 av h Q = k202 av h Q := id rfl
theorem cs26_205 {av : List Int} {h : XH} {Q : Nat → List Int → XH → Prop} : CS26 205 av h Q = k205 av h Q := id rfl
theorem cs26_208 {av : List Int} {h : XH} {Q : Nat → List Int → XH → Prop} : CS26 208 av h Q = k208 av h Q := id rfl
theorem cs26_209 {av : List Int} {h : XH} {Q : Nat → List Int → XH → Prop} : CS26 209 av h Q = k209 av h Q := id rfl
theorem cs26_211 {av : List Int} {h : XH} {Q : Nat → List Int → XH → Prop} : CS26 211 av h Q = k211 av h Q := id rfl
theorem cs26_216 {av : List Int} {h : XH} {Q : Nat → List Int → XH → Prop} : CS26 216 av h Q = k216 av h Q := id rfl
theorem cs26_217 {av : List Int} {h : XH} {Q : Nat → List Int → XH → Prop} : CS26 217 av h Q = k217 av h Q := id rfl
theorem cs26_218 {av : List Int} {h : XH} {Q : Nat → List Int → XH → Prop} : CS26 218 av h Q = k218 av h Q := id rfl
theorem cs26_219 {av : List Int} {h : XH} {Q : Nat → List Int → XH → Prop} : CS26 219 av h Q = k219 av h Q := id rfl
theorem cs26_220 {av : List Int} {h : XH} {Q : Nat → List Int → XH → Prop} : CS26 220 av h Q = k220 av h Q := id rfl
theorem cs26_221 {av : List Int} {h : XH} {Q : Nat → List Int → XH → Prop} : CS26 221 av h Q = k221 av h Q := id rfl
theorem cs26_210 {av : List Int} {h : XH} {Q : Nat → List Int → XH → Prop} : CS26 210 av h Q = k210 av h Q := id rfl
theorem cs26_212 {av : List Int} {h : XH} {Q : Nat → List Int → XH → Prop} : CS26 212 av h Q = k212 av h Q := id rfl
theorem cs26_213 {av : List Int} {h : XH} {Q : Nat → List Int → XH → Prop} : CS26 213 av h Q = k213 av h Q := id rfl
theorem cs26_190 {av : List Int} {h : XH} {Q : Nat → List Int → XH → Prop} : CS26 190 av h Q = k190 av h Q := id rfl
theorem cs26_199 {av : List Int} {h : XH} {Q : Nat → List Int → XH → Prop} : CS26 199 av h Q = k199 av h Q := id rfl
theorem cs26_225 {av : List Int} {h : XH} {Q : Nat → List Int → XH → Prop} : CS26 225 av h Q = k225 av h Q := id rfl
theorem cs26_226 {av : List Int} {h : XH} {Q : Nat → List Int → XH → Prop} : CS26 226 av h Q = k226 av h Q := id rfl
theorem cs26_227 {av : List Int} {h : XH} {Q : Nat → List Int → XH → Prop} : CS26 227 av h Q = k227 av h Q := id rfl
theorem cs26_228 {av : List Int} {h : XH} {Q : Nat → List Int → XH → Prop} : CS26 228 av h Q = k228 av h Q := id rfl
theorem cs26_333 {av : List Int} {h : XH} {Q : Nat → List Int → XH → Prop} : CS26 333 av h Q = k333 av h Q := id rfl
theorem cs26_67 {av : List Int} {h : XH} {Q : Nat → List Int → XH → Prop} : CS26 67 av h Q = k67 av h Q := id rfl
theorem cs26_65 {av : List Int} {h : XH} {Q : Nat → List Int → XH → Prop} : CS26 65 av h Q = k65 av h Q := id rfl
theorem cs26_66 {av : List Int} {h : XH} {Q : Nat → List Int → XH → Prop} : CS26 66 av h Q = k66 av h Q := id rfl
theorem cs26_64 {av : List Int} {h : XH} {Q : Nat → List Int → XH → Prop} : CS26 64 av h Q = k64 av h Q := id rfl
theorem cs26_63 {av : List Int} {h : XH} {Q : Nat → List Int → XH → Prop} : CS26 63 av h Q = k63 av h Q := id rfl
theorem cs26_77 {av : List Int} {h : XH} {Q : Nat → List Int → XH → Prop} : CS26 77 av h Q = k77 av h Q := id rfl
theorem cs26_76 {av : List Int} {h : XH} {Q : Nat → List Int → XH → Prop} : CS26 76 av h Q = k76 av h Q := id rfl
theorem cs26_133 {av : List Int} {h : XH} {Q : Nat → List Int → XH → Prop} : CS26 133 av h Q = k133 av h Q := id rfl
theorem cs26_134 {av : List Int} {h : XH} {Q : Nat → List Int → XH → Prop} : CS26 134 av h Q = k134 av h Q := id rfl
theorem cs26_135 {av : List Int} {h : XH} {Q : Nat → List Int → XH → Prop} : CS26 135 av h Q = k135 av h Q := id rfl
theorem cs26_136 {av : List Int} {h : XH} {Q : Nat → List Int → XH → Prop} : CS26 136 av h Q = k136 av h Q := id rfl
theorem cs26_138 {av : List Int} {h : XH} {Q : Nat → List Int → XH → Prop} : CS26 138 av h Q = k138 av h Q := id rfl
theorem cs26_139 {av : List Int} {h : XH} {Q : Nat → List Int → XH → Prop} : CS26 139 av h Q = k139 av h Q := id rfl
theorem cs26_105 {av : List Int} {h : XH} {Q : Nat → List Int → XH → Prop} : CS26 105 av h Q = k105 av h Q := id rfl
theorem cs26_102 {av : List Int} {h : XH} {Q : Nat → List Int → XH → Prop} : CS26 102 av h Q = k102 av h Q := id rfl
theorem cs26_103 {av : List Int} {h : XH} {Q : Nat → List Int → XH → Prop} : CS26 103 av h Q = k103 av h Q := id rfl
theorem cs26_104 {av : List Int} {h : XH} {Q : Nat → List Int → XH → Prop} : CS26 104 av h Q = k104 av h Q := id rfl
theorem cs26_106 {av : List Int} {h : XH} {Q : Nat → List Int → XH → Prop} : CS26 106 av h Q = k106 av h Q := id rfl
theorem cs26_140 {av : List Int} {h : XH} {Q : Nat → List Int → XH → Prop} : CS26 140 av h Q = k140 av h Q := id rfl
theorem cs26_137 {av : List Int} {h : XH} {Q : Nat → List Int → XH → Prop} : CS26 137 av h Q = k137 av h Q := id rfl
theorem cs26_127 {av : List Int} {h : XH} {Q : Nat → List Int → XH → Prop} : CS26 127 av h Q = k127 av h Q := id rfl
theorem cs26_56 {av : List Int} {h : XH} {Q : Nat → List Int → XH → Prop} : CS26 56 av h Q = k56 av h Q := id rfl
theorem cs26_57 {av : List Int} {h : XH} {Q : Nat → List Int → XH → Prop} : CS26 57 av h Q = k57 av h Q := id rfl
theorem cs26_79 {av : List Int} {h : XH} {Q : Nat → List Int → XH → Prop} : CS26 79 av h Q = k79 av h Q := id rfl
theorem cs26_101 {av : List Int} {h : XH} {Q : Nat → List Int → XH → Prop} : CS26 101 av h Q = k101 av h Q := id rfl
theorem cs26_96 {av : List Int} {h : XH} {Q : Nat → List Int → XH → Prop} : CS26 96 av h Q = k96 av h Q := id rfl
theorem cs26_99 {av : List Int} {h : XH} {Q : Nat → List Int → XH → Prop} : CS26 99 av h Q = k99c av h Q := id rfl
theorem cs26_100 {av : List Int} {h : XH} {Q : Nat → List Int → XH → Prop} : CS26 100 av h Q = k100 av h Q := id rfl
theorem cs26_98 {av : List Int} {h : XH} {Q : Nat → List Int → XH → Prop} : CS26 98 av h Q = k98 av h Q := id rfl
theorem cs26_122 {av : List Int} {h : XH} {Q : Nat → List Int → XH → Prop} : CS26 122 av h Q = k122 av h Q := id rfl
theorem cs26_123 {av : List Int} {h : XH} {Q : Nat → List Int → XH → Prop} : CS26 123 av h Q = k123 av h Q := id rfl
theorem cs26_124 {av : List Int} {h : XH} {Q : Nat → List Int → XH → Prop} : CS26 124 av h Q = k124 av h Q := id rfl
theorem cs26_125 {av : List Int} {h : XH} {Q : Nat → List Int → XH → Prop} : CS26 125 av h Q = k125 av h Q := id rfl
theorem cs26_126 {av : List Int} {h : XH} {Q : Nat → List Int → XH → Prop} : CS26 126 av h Q = k126 av h Q := id rfl
theorem cs26_84 {av : List Int} {h : XH} {Q : Nat → List Int → XH → Prop} : CS26 84 av h Q = k84 av h Q := id rfl
theorem cs26_82 {av : List Int} {h : XH} {Q : Nat → List Int → XH → Prop} : CS26 82 av h Q = k82 av h Q := id rfl
theorem cs26_83 {av : List Int} {h : XH} {Q : Nat → List Int → XH → Prop} : CS26 83 av h Q = k83 av h Q := id rfl
theorem cs26_85 {av : List Int} {h : XH} {Q : Nat → List Int → XH → Prop} : CS26 85 av h Q = k85 av h Q := id rfl
theorem cs26_89 {av : List Int} {h : XH} {Q : Nat → List Int → XH → Prop} : CS26 89 av h Q = k89 av h Q := id rfl
theorem cs26_90 {av : List Int} {h : XH} {Q : Nat → List Int → XH → Prop} : CS26 90 av h Q = k90 av h Q := id rfl
theorem cs26_91 {av : List Int} {h : XH} {Q : Nat → List Int → XH → Prop} : CS26 91 av h Q = k91 av h Q := id rfl
theorem cs26_88 {av : List Int} {h : XH} {Q : Nat → List Int → XH → Prop} : CS26 88 av h Q = k88 av h Q := id rfl
theorem cs26_86 {av : List Int} {h : XH} {Q : Nat → List Int → XH → Prop} : CS26 86 av h Q = k86 av h Q := id rfl
theorem cs26_87 {av : List Int} {h : XH} {Q : Nat → List Int → XH → Prop} : CS26 87 av h Q = k87 av h Q := id rfl
theorem cs26_81 {av : List Int} {h : XH} {Q : Nat → List Int → XH → Prop} : CS26 81 av h Q = k81 av h Q := id rfl
theorem cs26_128 {av : List Int} {h : XH} {Q : Nat → List Int → XH → Prop} : CS26 128 av h Q = k128 av h Q := id rfl
theorem cs26_119 {av : List Int} {h : XH} {Q : Nat → List Int → XH → Prop} : CS26 119 av h Q = k119 av h Q := id rfl
theorem cs26_58 {av : List Int} {h : XH} {Q : Nat → List Int → XH → Prop} : CS26 58 av h Q = k58 av h Q := id rfl
theorem cs26_80 {av : List Int} {h : XH} {Q : Nat → List Int → XH → Prop} : CS26 80 av h Q = k80 av h Q := id rfl
theorem cs26_97 {av : List Int} {h : XH} {Q : Nat → List Int → XH → Prop} : CS26 97 av h Q = k97s av h Q := id rfl
theorem cs26_156 {av : List Int} {h : XH} {Q : Nat → List Int → XH → Prop} : CS26 156 av h Q = k156 av h Q := id rfl
theorem cs26_142 {av : List Int} {h : XH} {Q : Nat → List Int → XH → Prop} : CS26 142 av h Q = k142 av h Q := id rfl
theorem cs26_3 {av : List Int} {h : XH} {Q : Nat → List Int → XH → Prop} : CS26 3 av h Q = k3s av h Q := id rfl
theorem cs26_61 {av : List Int} {h : XH} {Q : Nat → List Int → XH → Prop} : CS26 61 av h Q = k61z av h Q := id rfl
theorem cs26_2 {av : List Int} {h : XH} {Q : Nat → List Int → XH → Prop} : CS26 2 av h Q = k2s av h Q := id rfl
theorem cs26_240 {av : List Int} {h : XH} {Q : Nat → List Int → XH → Prop} : CS26 240 av h Q = k240s av h Q := id rfl
theorem cs26_241 {av : List Int} {h : XH} {Q : Nat → List Int → XH → Prop} : CS26 241 av h Q = k241s av h Q := id rfl
theorem cs26_206 {av : List Int} {h : XH} {Q : Nat → List Int → XH → Prop} : CS26 206 av h Q = k206s av h Q := id rfl
theorem cs26_113 {av : List Int} {h : XH} {Q : Nat → List Int → XH → Prop} : CS26 113 av h Q = k113 av h Q := id rfl
theorem cs26_114 {av : List Int} {h : XH} {Q : Nat → List Int → XH → Prop} : CS26 114 av h Q = k114 av h Q := id rfl
theorem cs26_116 {av : List Int} {h : XH} {Q : Nat → List Int → XH → Prop} : CS26 116 av h Q = k116 av h Q := id rfl
theorem cs26_117 {av : List Int} {h : XH} {Q : Nat → List Int → XH → Prop} : CS26 117 av h Q = k117 av h Q := id rfl
theorem cs26_121 {av : List Int} {h : XH} {Q : Nat → List Int → XH → Prop} : CS26 121 av h Q = k121 av h Q := id rfl
theorem cs26_129 {av : List Int} {h : XH} {Q : Nat → List Int → XH → Prop} : CS26 129 av h Q = k129 av h Q := id rfl
theorem cs26_130 {av : List Int} {h : XH} {Q : Nat → List Int → XH → Prop} : CS26 130 av h Q = k130 av h Q := id rfl
theorem cs26_131 {av : List Int} {h : XH} {Q : Nat → List Int → XH → Prop} : CS26 131 av h Q = k131 av h Q := id rfl
theorem cs26_132 {av : List Int} {h : XH} {Q : Nat → List Int → XH → Prop} : CS26 132 av h Q = k132 av h Q := id rfl
theorem cs26_120 {av : List Int} {h : XH} {Q : Nat → List Int → XH → Prop} : CS26 120 av h Q = k120 av h Q := id rfl
theorem cs26_4 {av : List Int} {h : XH} {Q : Nat → List Int → XH → Prop} : CS26 4 av h Q = k4 av h Q := id rfl
theorem m_120 : BodyOK CS26 CS26 120 := fun av h Q hQ => by
  rw [cs26_120] at hQ
  unfold k120 at hQ
  split at hQ
  · rename_i o p l
    obtain ⟨rfl, rfl, rfl, T, D, tN_w, byt, tok, cd, q1_w, q2_w⟩ := hQ
    show pS CS26 bb_120 [1, 6, 61, 0, 0, 0] h _
    unfold bb_120
    simp only [qe_1, qe_3, qe_4, qe_5, qe_7, qe_72, qe_10, qe_102, qe_13, qe_14, qe_15, qe_16, qe_17, qe_18, qe_20, qe_22, qe_23, qe_21, qe_24, qe_25, qe_26, qe_27, qe_28, qe_30, qe_31, qe_32, qc_20, qc_22, qc_23, qc_21, qc_24, qc_25, qc_26, qc_27, qc_1, qc_3, qc_4, qc_7, qc_13, qc_28, qc_32, qs_1, qs_2, qs_3, qs_4, qs_5, qs_6, qs_9, qs_10, qs_11, qs_14, qs_15, qs_16, qs_27, qs_17, qs_18, qs_19, qs_20, qs_22, qs_23, qs_28, qs_25, qs_26, qs_7, qs_8, kc_1, kn_1, kc_2, kn_2, kc_3, kn_3, kc_4, kn_4, kc_5, kn_5, kc_6, kn_6, kc_7, kn_7, kc_8, kn_8, kc_9, kn_9, kc_10, kn_10, kc_11, kn_11, kc_12, kn_12, kc_13, kn_13, kc_14, kn_14, kc_15, kn_15, kc_16, kc_17, kc_18, kc_19, kc_20, kc_21, kc_22, kc_23, kc_30, kc_32, kc_40, kc_43, kc_45, kc_48, kc_52, kc_56, kc_57, kc_59, kc_60, kc_61, kc_63, kc_64, kc_72, kc_78, kc_97, kc_99, kc_122, kc_126, kc_128, kc_192, kc_200, kc_255, kc_999, kc_1000, kc_9999, kn_9999, kc_10000, kc_12345, kc_65536, kc_252645135, kc_858993459, kc_1103515245, kc_1431655765, kc_2147483647, kc_0, kc_24, kc_28, kc_37, kc_41, kc_42, kc_73, kc_91, kc_95, kc_96, kc_98, kc_100, kc_112, kc_125, kc_150, kc_162, kc_163, kc_168, kc_186, kc_190, kc_250, kc_355, kc_356, kc_404, kc_405, kc_429, kc_573, kc_1002, kc_1100, kc_1891, kc_2200, kc_4719, kc_4869, kc_4881, kc_5148, kc_19741, kc_25433, kc_320403, kc_628412, kc_629093, kc_660401, kc_679843, kc_918640, kc_979410, kc_1178088, kc_6232410, kc_24644941, kc_36238189, kc_38270444, kc_392531318, kc_425693491, kc_1342154595, kc_2147483648, kc_42328242873, kc_891704255789, kc_1722105685577, kc_1858726030364, ct_0, ct_1, ct_2, ct_3, ct_4, ct_5, cf_0, cf_1, cf_2, cf_3, cf_4, cf_5, w_ty6, w_ty7, m_sv, m_z0, m_hd, m_g0, m_gs, m_s0, m_ss, m_ap, m_an, forall_const, true_and, and_true, ne_eq, not_true_eq_false, not_false_eq_true, false_implies, true_implies, implies_true, eq_self, reduceCtorEq, Nat.reduceDiv, Nat.reduceMod, Int.reduceToNat, or_true, true_or, or_false, false_or, or_self, m_it, m_if, m_c1, m_01, m_02, m_03, m_04, m_10, m_12, m_13, m_14, m_20, m_21, m_23, m_24, m_30, m_31, m_32, m_34, m_40, m_41, m_42, m_43, Int.reduceLE, Int.reduceLT, Int.reduceGE, Int.reduceGT, Int.reduceNeg, Int.reduceAdd, Int.reduceSub, Int.reduceMul, Int.reduceEq, Int.reduceNe, Nat.reduceAdd, jun2, ro_0_0, ro_0_1, ro_0_2, ro_0_3, ro_0_4, ro_0_5, ro_0_6, ro_0_7, ro_0_8, ro_0_9, ro_0_10, ro_0_11, ro_0_12, ro_1_0, ro_1_1, ro_2_0, ro_4_0, ro_6_0, ro_6_1, ro_6_2, ro_6_3, ro_6_4, ro_6_5, ro_6_6, ro_6_7, ro_6_8, ro_8_0, ro_10_0, ro_12_0, ro_14_0, ro_16_0, ro_18_0, ro_20_0, ro_22_0, ro_22_1, ro_22_2, ro_23_0, ro_25_0, ro_27_0, ro_29_0, ro_29_1, ro_29_2, ro_29_3, ro_29_4, ro_29_5, ro_29_6, ro_29_7, ro_29_8, ro_31_0, ro_33_0, ro_35_0, ro_37_0, ro_39_0, ro_41_0, ro_43_0, ro_45_0, ro_45_1, ro_45_2, ro_46_0, ro_48_0, ro_50_0, ro_52_0, ro_52_1, ro_52_2, ro_52_3, ro_53_0, ro_55_0, ro_57_0, ro_59_0, ro_61_0, ro_61_1, ro_61_2, ro_61_3, ro_62_0, ro_64_0, ro_66_0, ro_68_0, ro_70_0, ro_70_1, ro_70_2, ro_70_3, ro_70_4, ro_70_5, ro_70_6, ro_70_7, ro_70_8, ro_70_9, ro_71_0, ro_73_0, ro_75_0, ro_77_0, ro_79_0, ro_81_0, ro_83_0, ro_85_0, ro_87_0, ro_89_0, ro_91_0, ro_91_1, ro_91_2, ro_91_3, ro_91_4, ro_91_5, ro_91_6, ro_91_7, ro_91_8, ro_91_9, ro_92_0, ro_94_0, ro_96_0, ro_98_0, ro_100_0, ro_102_0, ro_104_0, ro_106_0, ro_108_0, ro_110_0, ro_112_0, ro_112_1, ro_112_2, ro_112_3, ro_112_4, ro_112_5, ro_112_6, ro_112_7, ro_112_8, ro_112_9, ro_113_0, ro_115_0, ro_117_0, ro_119_0, ro_121_0, ro_123_0, ro_125_0, ro_127_0, ro_129_0, ro_131_0, ro_133_0, ro_133_1, ro_133_2, ro_133_3, ro_133_4, ro_133_5, ro_133_6, ro_133_7, ro_133_8, ro_133_9, ro_134_0, ro_136_0, ro_138_0, ro_140_0, ro_142_0, ro_144_0, ro_146_0, ro_148_0, ro_150_0, ro_152_0, ro_154_0, ro_155_0, ro_157_0, ro_157_1, ro_157_2, ro_157_3, ro_157_4, ro_157_5, ro_157_6, ro_157_7, ro_157_8, ro_157_9, ro_158_0, ro_160_0, ro_162_0, ro_164_0, ro_166_0, ro_168_0, ro_170_0, ro_172_0, ro_174_0, ro_176_0, ro_178_0, ro_180_0, ro_182_1, ro_182_4, ro_182_5, ro_182_6, ro_182_9, ro_182_10, ro_182_11, ro_182_13, ro_182_14, ro_182_15, ro_182_16, ro_182_17, ro_182_20, ro_182_21, ro_182_22, ro_182_23, ro_182_24, ro_182_26, ro_182_27, ro_182_28, lo_3, lo_5, lo_7, lo_9, lo_11, lo_13, lo_15, lo_17, lo_19, lo_21, lo_24, lo_26, lo_28, lo_30, lo_32, lo_34, lo_36, lo_38, lo_40, lo_42, lo_44, lo_47, lo_49, lo_51, lo_54, lo_56, lo_58, lo_60, lo_63, lo_65, lo_67, lo_69, lo_72, lo_74, lo_76, lo_78, lo_80, lo_82, lo_84, lo_86, lo_88, lo_90, lo_93, lo_95, lo_97, lo_99, lo_101, lo_103, lo_105, lo_107, lo_109, lo_111, lo_114, lo_116, lo_118, lo_120, lo_122, lo_124, lo_126, lo_128, lo_130, lo_132, lo_135, lo_137, lo_139, lo_141, lo_143, lo_145, lo_147, lo_149, lo_151, lo_153, lo_156, lo_159, lo_161, lo_163, lo_165, lo_167, lo_169, lo_171, lo_173, lo_175, lo_177, lo_179, lo_181, lo_183, lo_184, lo_185, lo_186, lo_187, lo_188, lo_189, lo_190, lo_191, lo_192, lo_193, lo_194, lo_195, lo_196, lo_197, lo_198, lo_199, lo_200, lo_201, lo_202, lo_203, jp_nn, jp_eq, jp_e1, Classical.not_not, ji0, ji1, ji2, cs26_72, kk_72, cs26_63, kk_63, cs26_77, kk_77, cs26_133, kk_133, cs26_121, kk_121, cs26_129, kk_129, cs26_130, kk_130, cs26_131, kk_131, cs26_132, kk_132, jl_0, jl_1, jl_2, jl_3, jl_4, jl_5, jl_6, jl_7, jl_8, jl_9, jl_10, jl_11, jl_12, jl_13, jl_14, jl_15, jl_16, jl_17, jl_18, jl_19, jl_20, jl_21, jl_22, jl_23, jl_24, jl_25, jl_26, jl_27, jl_28, jl_29, jl_30, jl_31, jl_32, jl_33, jl_34, jl_35, jl_36, jl_37, jl_38, jl_39, jl_40, jl_95, jl_96, jl_97, jl_98, jl_99, jl_100, jl_101, jl_102, jl_103, jl_104, jl_105, jl_106, jl_107, jl_108, jl_109, jl_110, jl_111, jl_112, jl_113, jl_114, jl_186, jl_1100, jr, ju, jpT, jpF, tnc, Nat.reduceEqDiff, reduceIte, and_false, false_and, not_true_eq_false, not_false_eq_true, or_false, gt_iff_lt, ge_iff_le, Int.lt_irrefl, Int.le_refl]
    have f2_w : FWk h (j_up (j_up h 61 4 0) 1 6 0) := (FWk.up (by omega)).tr (FWk.up (by omega))
    have e2_w : ∀ o k : Nat, o ≠ 1 → o ≠ 61 → j_up (j_up h 61 4 0) 1 6 0 o k = h o k := fun o k z z2 => by
      rw [up_ne (by omega), up_ne (by omega)]
    have e3_w : j_up (j_up h 61 4 0) 1 6 0 3 = h 3 := funext fun k => e2_w 3 k (by decide) (by decide)
    have byt2 : BYT T.1 (j_up (j_up h 61 4 0) 1 6 0) := by
      refine ⟨(e2_w 2 1 (by decide) (by decide)).trans byt.1, byt.2.1, fun k z => ?_⟩
      rw [e3_w]
      exact byt.2.2 k z
    refine ⟨T.1, byt2, fun h3 f3_w a3 => ?_⟩
    have t3_w : TCA T 0 h3 := by
      refine ADV.tc tok.rest (byt2.ft f3_w) ?_ ?_
      · exact (f3_w.row (by decide)).trans e3_w
      · rw [← e3_w]
        exact a3
    have fl3 : FWk h h3 := f2_w.tr f3_w.wk
    have g6 : h3 1 6 = 0 := (f3_w 1 6 (by omega)).trans rfl
    have ln3 : LNS 61 [] h3 := ⟨(f3_w 61 4 (by omega)).trans rfl, by decide, fun k x z => by cases z⟩
    refine qp_lp (fun en h4 => WIV T D h en h4) ⟨0, 1, 0, rfl, fl3, Or.inl ⟨rfl, 0, [], rfl, t3_w, ln3, g6, rfl⟩⟩ ?_
    intro en h4 ⟨w0_w, b, k, e4_w, fl4, hb_w⟩
    subst e4_w
    rcases hb_w with ⟨rfl, i, L, rfl, t4_w, ln4, g4, ev_w⟩ | ⟨rfl, kb, ev_w⟩
    · have sz := ln4.2.1
      have yk : (L.length : Int) < 1000 := by omega
      have yk' : ¬ (1000 : Int) ≤ (L.length : Int) := by omega
      have ek := jk1 (k := L.length) (by omega)
      by_cases y0 : tS T i = 0
      · have y0' : h4 2 3 = 0 := t4_w.2.1.trans y0
        have eg : sWork (tS T) (tP T) (tV T) wl D 32 [] 0 = .ok L := by
          rw [ev_w, show 32 - L.length = (31 - L.length) + 1 by omega, sWork, if_pos y0]
        have fin_w := q2_w L h4 eg fl4 ln4
        simp only [qe_1, qe_3, qe_4, qe_5, qe_7, qe_72, qe_10, qe_102, qe_13, qe_14, qe_15, qe_16, qe_17, qe_18, qe_20, qe_22, qe_23, qe_21, qe_24, qe_25, qe_26, qe_27, qe_28, qe_30, qe_31, qe_32, qc_20, qc_22, qc_23, qc_21, qc_24, qc_25, qc_26, qc_27, qc_1, qc_3, qc_4, qc_7, qc_13, qc_28, qc_32, qs_1, qs_2, qs_3, qs_4, qs_5, qs_6, qs_9, qs_10, qs_11, qs_14, qs_15, qs_16, qs_27, qs_17, qs_18, qs_19, qs_20, qs_22, qs_23, qs_28, qs_25, qs_26, qs_7, qs_8, kc_1, kn_1, kc_2, kn_2, kc_3, kn_3, kc_4, kn_4, kc_5, kn_5, kc_6, kn_6, kc_7, kn_7, kc_8, kn_8, kc_9, kn_9, kc_10, kn_10, kc_11, kn_11, kc_12, kn_12, kc_13, kn_13, kc_14, kn_14, kc_15, kn_15, kc_16, kc_17, kc_18, kc_19, kc_20, kc_21, kc_22, kc_23, kc_30, kc_32, kc_40, kc_43, kc_45, kc_48, kc_52, kc_56, kc_57, kc_59, kc_60, kc_61, kc_63, kc_64, kc_72, kc_78, kc_97, kc_99, kc_122, kc_126, kc_128, kc_192, kc_200, kc_255, kc_999, kc_1000, kc_9999, kn_9999, kc_10000, kc_12345, kc_65536, kc_252645135, kc_858993459, kc_1103515245, kc_1431655765, kc_2147483647, kc_0, kc_24, kc_28, kc_37, kc_41, kc_42, kc_73, kc_91, kc_95, kc_96, kc_98, kc_100, kc_112, kc_125, kc_150, kc_162, kc_163, kc_168, kc_186, kc_190, kc_250, kc_355, kc_356, kc_404, kc_405, kc_429, kc_573, kc_1002, kc_1100, kc_1891, kc_2200, kc_4719, kc_4869, kc_4881, kc_5148, kc_19741, kc_25433, kc_320403, kc_628412, kc_629093, kc_660401, kc_679843, kc_918640, kc_979410, kc_1178088, kc_6232410, kc_24644941, kc_36238189, kc_38270444, kc_392531318, kc_425693491, kc_1342154595, kc_2147483648, kc_42328242873, kc_891704255789, kc_1722105685577, kc_1858726030364, ct_0, ct_1, ct_2, ct_3, ct_4, ct_5, cf_0, cf_1, cf_2, cf_3, cf_4, cf_5, w_ty6, w_ty7, m_sv, m_z0, m_hd, m_g0, m_gs, m_s0, m_ss, m_ap, m_an, forall_const, true_and, and_true, ne_eq, not_true_eq_false, not_false_eq_true, false_implies, true_implies, implies_true, eq_self, reduceCtorEq, Nat.reduceDiv, Nat.reduceMod, Int.reduceToNat, or_true, true_or, or_false, false_or, or_self, m_it, m_if, m_c1, m_01, m_02, m_03, m_04, m_10, m_12, m_13, m_14, m_20, m_21, m_23, m_24, m_30, m_31, m_32, m_34, m_40, m_41, m_42, m_43, Int.reduceLE, Int.reduceLT, Int.reduceGE, Int.reduceGT, Int.reduceNeg, Int.reduceAdd, Int.reduceSub, Int.reduceMul, Int.reduceEq, Int.reduceNe, Nat.reduceAdd, jun2, ro_0_0, ro_0_1, ro_0_2, ro_0_3, ro_0_4, ro_0_5, ro_0_6, ro_0_7, ro_0_8, ro_0_9, ro_0_10, ro_0_11, ro_0_12, ro_1_0, ro_1_1, ro_2_0, ro_4_0, ro_6_0, ro_6_1, ro_6_2, ro_6_3, ro_6_4, ro_6_5, ro_6_6, ro_6_7, ro_6_8, ro_8_0, ro_10_0, ro_12_0, ro_14_0, ro_16_0, ro_18_0, ro_20_0, ro_22_0, ro_22_1, ro_22_2, ro_23_0, ro_25_0, ro_27_0, ro_29_0, ro_29_1, ro_29_2, ro_29_3, ro_29_4, ro_29_5, ro_29_6, ro_29_7, ro_29_8, ro_31_0, ro_33_0, ro_35_0, ro_37_0, ro_39_0, ro_41_0, ro_43_0, ro_45_0, ro_45_1, ro_45_2, ro_46_0, ro_48_0, ro_50_0, ro_52_0, ro_52_1, ro_52_2, ro_52_3, ro_53_0, ro_55_0, ro_57_0, ro_59_0, ro_61_0, ro_61_1, ro_61_2, ro_61_3, ro_62_0, ro_64_0, ro_66_0, ro_68_0, ro_70_0, ro_70_1, ro_70_2, ro_70_3, ro_70_4, ro_70_5, ro_70_6, ro_70_7, ro_70_8, ro_70_9, ro_71_0, ro_73_0, ro_75_0, ro_77_0, ro_79_0, ro_81_0, ro_83_0, ro_85_0, ro_87_0, ro_89_0, ro_91_0, ro_91_1, ro_91_2, ro_91_3, ro_91_4, ro_91_5, ro_91_6, ro_91_7, ro_91_8, ro_91_9, ro_92_0, ro_94_0, ro_96_0, ro_98_0, ro_100_0, ro_102_0, ro_104_0, ro_106_0, ro_108_0, ro_110_0, ro_112_0, ro_112_1, ro_112_2, ro_112_3, ro_112_4, ro_112_5, ro_112_6, ro_112_7, ro_112_8, ro_112_9, ro_113_0, ro_115_0, ro_117_0, ro_119_0, ro_121_0, ro_123_0, ro_125_0, ro_127_0, ro_129_0, ro_131_0, ro_133_0, ro_133_1, ro_133_2, ro_133_3, ro_133_4, ro_133_5, ro_133_6, ro_133_7, ro_133_8, ro_133_9, ro_134_0, ro_136_0, ro_138_0, ro_140_0, ro_142_0, ro_144_0, ro_146_0, ro_148_0, ro_150_0, ro_152_0, ro_154_0, ro_155_0, ro_157_0, ro_157_1, ro_157_2, ro_157_3, ro_157_4, ro_157_5, ro_157_6, ro_157_7, ro_157_8, ro_157_9, ro_158_0, ro_160_0, ro_162_0, ro_164_0, ro_166_0, ro_168_0, ro_170_0, ro_172_0, ro_174_0, ro_176_0, ro_178_0, ro_180_0, ro_182_1, ro_182_4, ro_182_5, ro_182_6, ro_182_9, ro_182_10, ro_182_11, ro_182_13, ro_182_14, ro_182_15, ro_182_16, ro_182_17, ro_182_20, ro_182_21, ro_182_22, ro_182_23, ro_182_24, ro_182_26, ro_182_27, ro_182_28, lo_3, lo_5, lo_7, lo_9, lo_11, lo_13, lo_15, lo_17, lo_19, lo_21, lo_24, lo_26, lo_28, lo_30, lo_32, lo_34, lo_36, lo_38, lo_40, lo_42, lo_44, lo_47, lo_49, lo_51, lo_54, lo_56, lo_58, lo_60, lo_63, lo_65, lo_67, lo_69, lo_72, lo_74, lo_76, lo_78, lo_80, lo_82, lo_84, lo_86, lo_88, lo_90, lo_93, lo_95, lo_97, lo_99, lo_101, lo_103, lo_105, lo_107, lo_109, lo_111, lo_114, lo_116, lo_118, lo_120, lo_122, lo_124, lo_126, lo_128, lo_130, lo_132, lo_135, lo_137, lo_139, lo_141, lo_143, lo_145, lo_147, lo_149, lo_151, lo_153, lo_156, lo_159, lo_161, lo_163, lo_165, lo_167, lo_169, lo_171, lo_173, lo_175, lo_177, lo_179, lo_181, lo_183, lo_184, lo_185, lo_186, lo_187, lo_188, lo_189, lo_190, lo_191, lo_192, lo_193, lo_194, lo_195, lo_196, lo_197, lo_198, lo_199, lo_200, lo_201, lo_202, lo_203, jp_nn, jp_eq, jp_e1, Classical.not_not, ji0, ji1, ji2, cs26_72, kk_72, cs26_63, kk_63, cs26_77, kk_77, cs26_133, kk_133, cs26_121, kk_121, cs26_129, kk_129, cs26_130, kk_130, cs26_131, kk_131, cs26_132, kk_132, jl_0, jl_1, jl_2, jl_3, jl_4, jl_5, jl_6, jl_7, jl_8, jl_9, jl_10, jl_11, jl_12, jl_13, jl_14, jl_15, jl_16, jl_17, jl_18, jl_19, jl_20, jl_21, jl_22, jl_23, jl_24, jl_25, jl_26, jl_27, jl_28, jl_29, jl_30, jl_31, jl_32, jl_33, jl_34, jl_35, jl_36, jl_37, jl_38, jl_39, jl_40, jl_95, jl_96, jl_97, jl_98, jl_99, jl_100, jl_101, jl_102, jl_103, jl_104, jl_105, jl_106, jl_107, jl_108, jl_109, jl_110, jl_111, jl_112, jl_113, jl_114, jl_186, jl_1100, jr, ju, jpT, jpF, tnc, Nat.reduceEqDiff, reduceIte, and_false, false_and, not_true_eq_false, not_false_eq_true, or_false, gt_iff_lt, ge_iff_le, Int.lt_irrefl, Int.le_refl, yk, yk', y0', g4]
        exact fin_w
      · have y0' : ¬ h4 2 3 = 0 := fun z => y0 (t4_w.2.1.symm.trans z)
        have lt := t4_w.lt y0
        have cd4 : CDw 6 D h4 := cd.wk fl4
        have es : sWork (tS T) (tP T) (tV T) wl D 32 [] 0 = eB (sWy T D L.length i) fun r => sWork (tS T) (tP T) (tV T) wl D (31 - L.length) (L ++ [r.1]) r.2 := by
          rw [ev_w, show 32 - L.length = (31 - L.length) + 1 by omega]
          exact sWork_s y0
        have w4_w := t4_w.wk4
        have ef := t4_w.fa (c := 1) (by decide) (by decide)
        have e5_w := t4_w.fa (c := 5) (by decide) (by decide)
        have m4_w : h4 61 4 = (L.length : Int) := ln4.1
        have bad_w : ∀ f (h5 : XH), sWy T D L.length i = .error f → FWk h4 h5 → h5 1 6 = f → ∀ w : Int, WIV T D h [1, 6, 61, 0, ((L.length + 1 : Nat) : Int), w] h5 := fun f h5 e f5_w e6_w w => ⟨w, 0, _, rfl, fl4.tr f5_w, Or.inr ⟨rfl, by omega, by rw [es, e, e6_w]; rfl⟩⟩
        have good_w : ∀ x j (h5 : XH), sWy T D L.length i = .ok (x, j) → FWk h4 h5 → h5 1 6 = h4 1 6 → LNS 61 (L ++ [x]) h5 → TCA T j h5 → ∀ w : Int, WIV T D h [1, 6, 61, 1, ((L.length + 1 : Nat) : Int), w] h5 := fun x j h5 e f5_w e6_w ln5 t5_w w => by
          have el : (L ++ [x]).length = L.length + 1 := by simp
          refine ⟨w, 1, _, rfl, fl4.tr f5_w, Or.inl ⟨rfl, j, L ++ [x], by rw [el], t5_w, ln5, e6_w.trans g4, ?_⟩⟩
          rw [es, e, el]
          show sWork _ _ _ _ _ _ _ _ = _
          rw [show 32 - (L.length + 1) = 31 - L.length by omega]
        have ux : ∀ what : Int, wHere (tS T) (tV T) wl 9 4 i = what → 0 ≤ what → L.length < 30 → sWE what T D i = sWy T D L.length i := fun what e z1 z2 => by
          unfold sWy sWx
          rw [e, if_neg (by omega), if_neg (by omega)]
          rfl
        rcases Classical.em (wrd (h4 2 3) (h4 2 6) = 9 ∨ wrd (h4 2 3) (h4 2 6) = 10 ∨ wrd (h4 2 3) (h4 2 6) = 11 ∨ wrd (h4 2 3) (h4 2 6) = 12) with yw | yw
        · obtain ⟨w, hw0⟩ : ∃ w, wrd (h4 2 3) (h4 2 6) = w := ⟨_, rfl⟩
          rw [hw0] at yw
          rcases yw with y9 | y10 | y11 | y12
          · have hw : wrd (h4 2 3) (h4 2 6) = 9 := hw0.trans y9
            have wv : wHere (tS T) (tV T) wl 9 4 i = 0 := w4_w.trans (by rw [hw]; rfl)
            by_cases y30 : L.length = 30
            · have z30 : (30 : Int) ≤ (L.length : Int) := by omega
              have z31_w : ¬ (L.length : Int) < 30 := by omega
              have q : sWy T D L.length i = .error (er (tP T) 5 i) := by
                unfold sWy sWx
                rw [wv, if_neg (by decide), if_pos y30]
                rfl
              simp only [qe_1, qe_3, qe_4, qe_5, qe_7, qe_72, qe_10, qe_102, qe_13, qe_14, qe_15, qe_16, qe_17, qe_18, qe_20, qe_22, qe_23, qe_21, qe_24, qe_25, qe_26, qe_27, qe_28, qe_30, qe_31, qe_32, qc_20, qc_22, qc_23, qc_21, qc_24, qc_25, qc_26, qc_27, qc_1, qc_3, qc_4, qc_7, qc_13, qc_28, qc_32, qs_1, qs_2, qs_3, qs_4, qs_5, qs_6, qs_9, qs_10, qs_11, qs_14, qs_15, qs_16, qs_27, qs_17, qs_18, qs_19, qs_20, qs_22, qs_23, qs_28, qs_25, qs_26, qs_7, qs_8, kc_1, kn_1, kc_2, kn_2, kc_3, kn_3, kc_4, kn_4, kc_5, kn_5, kc_6, kn_6, kc_7, kn_7, kc_8, kn_8, kc_9, kn_9, kc_10, kn_10, kc_11, kn_11, kc_12, kn_12, kc_13, kn_13, kc_14, kn_14, kc_15, kn_15, kc_16, kc_17, kc_18, kc_19, kc_20, kc_21, kc_22, kc_23, kc_30, kc_32, kc_40, kc_43, kc_45, kc_48, kc_52, kc_56, kc_57, kc_59, kc_60, kc_61, kc_63, kc_64, kc_72, kc_78, kc_97, kc_99, kc_122, kc_126, kc_128, kc_192, kc_200, kc_255, kc_999, kc_1000, kc_9999, kn_9999, kc_10000, kc_12345, kc_65536, kc_252645135, kc_858993459, kc_1103515245, kc_1431655765, kc_2147483647, kc_0, kc_24, kc_28, kc_37, kc_41, kc_42, kc_73, kc_91, kc_95, kc_96, kc_98, kc_100, kc_112, kc_125, kc_150, kc_162, kc_163, kc_168, kc_186, kc_190, kc_250, kc_355, kc_356, kc_404, kc_405, kc_429, kc_573, kc_1002, kc_1100, kc_1891, kc_2200, kc_4719, kc_4869, kc_4881, kc_5148, kc_19741, kc_25433, kc_320403, kc_628412, kc_629093, kc_660401, kc_679843, kc_918640, kc_979410, kc_1178088, kc_6232410, kc_24644941, kc_36238189, kc_38270444, kc_392531318, kc_425693491, kc_1342154595, kc_2147483648, kc_42328242873, kc_891704255789, kc_1722105685577, kc_1858726030364, ct_0, ct_1, ct_2, ct_3, ct_4, ct_5, cf_0, cf_1, cf_2, cf_3, cf_4, cf_5, w_ty6, w_ty7, m_sv, m_z0, m_hd, m_g0, m_gs, m_s0, m_ss, m_ap, m_an, forall_const, true_and, and_true, ne_eq, not_true_eq_false, not_false_eq_true, false_implies, true_implies, implies_true, eq_self, reduceCtorEq, Nat.reduceDiv, Nat.reduceMod, Int.reduceToNat, or_true, true_or, or_false, false_or, or_self, m_it, m_if, m_c1, m_01, m_02, m_03, m_04, m_10, m_12, m_13, m_14, m_20, m_21, m_23, m_24, m_30, m_31, m_32, m_34, m_40, m_41, m_42, m_43, Int.reduceLE, Int.reduceLT, Int.reduceGE, Int.reduceGT, Int.reduceNeg, Int.reduceAdd, Int.reduceSub, Int.reduceMul, Int.reduceEq, Int.reduceNe, Nat.reduceAdd, jun2, ro_0_0, ro_0_1, ro_0_2, ro_0_3, ro_0_4, ro_0_5, ro_0_6, ro_0_7, ro_0_8, ro_0_9, ro_0_10, ro_0_11, ro_0_12, ro_1_0, ro_1_1, ro_2_0, ro_4_0, ro_6_0, ro_6_1, ro_6_2, ro_6_3, ro_6_4, ro_6_5, ro_6_6, ro_6_7, ro_6_8, ro_8_0, ro_10_0, ro_12_0, ro_14_0, ro_16_0, ro_18_0, ro_20_0, ro_22_0, ro_22_1, ro_22_2, ro_23_0, ro_25_0, ro_27_0, ro_29_0, ro_29_1, ro_29_2, ro_29_3, ro_29_4, ro_29_5, ro_29_6, ro_29_7, ro_29_8, ro_31_0, ro_33_0, ro_35_0, ro_37_0, ro_39_0, ro_41_0, ro_43_0, ro_45_0, ro_45_1, ro_45_2, ro_46_0, ro_48_0, ro_50_0, ro_52_0, ro_52_1, ro_52_2, ro_52_3, ro_53_0, ro_55_0, ro_57_0, ro_59_0, ro_61_0, ro_61_1, ro_61_2, ro_61_3, ro_62_0, ro_64_0, ro_66_0, ro_68_0, ro_70_0, ro_70_1, ro_70_2, ro_70_3, ro_70_4, ro_70_5, ro_70_6, ro_70_7, ro_70_8, ro_70_9, ro_71_0, ro_73_0, ro_75_0, ro_77_0, ro_79_0, ro_81_0, ro_83_0, ro_85_0, ro_87_0, ro_89_0, ro_91_0, ro_91_1, ro_91_2, ro_91_3, ro_91_4, ro_91_5, ro_91_6, ro_91_7, ro_91_8, ro_91_9, ro_92_0, ro_94_0, ro_96_0, ro_98_0, ro_100_0, ro_102_0, ro_104_0, ro_106_0, ro_108_0, ro_110_0, ro_112_0, ro_112_1, ro_112_2, ro_112_3, ro_112_4, ro_112_5, ro_112_6, ro_112_7, ro_112_8, ro_112_9, ro_113_0, ro_115_0, ro_117_0, ro_119_0, ro_121_0, ro_123_0, ro_125_0, ro_127_0, ro_129_0, ro_131_0, ro_133_0, ro_133_1, ro_133_2, ro_133_3, ro_133_4, ro_133_5, ro_133_6, ro_133_7, ro_133_8, ro_133_9, ro_134_0, ro_136_0, ro_138_0, ro_140_0, ro_142_0, ro_144_0, ro_146_0, ro_148_0, ro_150_0, ro_152_0, ro_154_0, ro_155_0, ro_157_0, ro_157_1, ro_157_2, ro_157_3, ro_157_4, ro_157_5, ro_157_6, ro_157_7, ro_157_8, ro_157_9, ro_158_0, ro_160_0, ro_162_0, ro_164_0, ro_166_0, ro_168_0, ro_170_0, ro_172_0, ro_174_0, ro_176_0, ro_178_0, ro_180_0, ro_182_1, ro_182_4, ro_182_5, ro_182_6, ro_182_9, ro_182_10, ro_182_11, ro_182_13, ro_182_14, ro_182_15, ro_182_16, ro_182_17, ro_182_20, ro_182_21, ro_182_22, ro_182_23, ro_182_24, ro_182_26, ro_182_27, ro_182_28, lo_3, lo_5, lo_7, lo_9, lo_11, lo_13, lo_15, lo_17, lo_19, lo_21, lo_24, lo_26, lo_28, lo_30, lo_32, lo_34, lo_36, lo_38, lo_40, lo_42, lo_44, lo_47, lo_49, lo_51, lo_54, lo_56, lo_58, lo_60, lo_63, lo_65, lo_67, lo_69, lo_72, lo_74, lo_76, lo_78, lo_80, lo_82, lo_84, lo_86, lo_88, lo_90, lo_93, lo_95, lo_97, lo_99, lo_101, lo_103, lo_105, lo_107, lo_109, lo_111, lo_114, lo_116, lo_118, lo_120, lo_122, lo_124, lo_126, lo_128, lo_130, lo_132, lo_135, lo_137, lo_139, lo_141, lo_143, lo_145, lo_147, lo_149, lo_151, lo_153, lo_156, lo_159, lo_161, lo_163, lo_165, lo_167, lo_169, lo_171, lo_173, lo_175, lo_177, lo_179, lo_181, lo_183, lo_184, lo_185, lo_186, lo_187, lo_188, lo_189, lo_190, lo_191, lo_192, lo_193, lo_194, lo_195, lo_196, lo_197, lo_198, lo_199, lo_200, lo_201, lo_202, lo_203, jp_nn, jp_eq, jp_e1, Classical.not_not, ji0, ji1, ji2, cs26_72, kk_72, cs26_63, kk_63, cs26_77, kk_77, cs26_133, kk_133, cs26_121, kk_121, cs26_129, kk_129, cs26_130, kk_130, cs26_131, kk_131, cs26_132, kk_132, jl_0, jl_1, jl_2, jl_3, jl_4, jl_5, jl_6, jl_7, jl_8, jl_9, jl_10, jl_11, jl_12, jl_13, jl_14, jl_15, jl_16, jl_17, jl_18, jl_19, jl_20, jl_21, jl_22, jl_23, jl_24, jl_25, jl_26, jl_27, jl_28, jl_29, jl_30, jl_31, jl_32, jl_33, jl_34, jl_35, jl_36, jl_37, jl_38, jl_39, jl_40, jl_95, jl_96, jl_97, jl_98, jl_99, jl_100, jl_101, jl_102, jl_103, jl_104, jl_105, jl_106, jl_107, jl_108, jl_109, jl_110, jl_111, jl_112, jl_113, jl_114, jl_186, jl_1100, jr, ju, jpT, jpF, tnc, Nat.reduceEqDiff, reduceIte, and_false, false_and, not_true_eq_false, not_false_eq_true, or_false, gt_iff_lt, ge_iff_le, Int.lt_irrefl, Int.le_refl, yk, yk', y0', ek, m4_w, hw, z30, z31_w, e5_w]
              exact bad_w _ _ q (FWk.up (by omega)) up_eq _
            · have z30 : ¬ (30 : Int) ≤ (L.length : Int) := by omega
              have z31_w : (L.length : Int) < 30 := by omega
              have q := ux 0 wv (by decide) (by omega)
              simp only [qe_1, qe_3, qe_4, qe_5, qe_7, qe_72, qe_10, qe_102, qe_13, qe_14, qe_15, qe_16, qe_17, qe_18, qe_20, qe_22, qe_23, qe_21, qe_24, qe_25, qe_26, qe_27, qe_28, qe_30, qe_31, qe_32, qc_20, qc_22, qc_23, qc_21, qc_24, qc_25, qc_26, qc_27, qc_1, qc_3, qc_4, qc_7, qc_13, qc_28, qc_32, qs_1, qs_2, qs_3, qs_4, qs_5, qs_6, qs_9, qs_10, qs_11, qs_14, qs_15, qs_16, qs_27, qs_17, qs_18, qs_19, qs_20, qs_22, qs_23, qs_28, qs_25, qs_26, qs_7, qs_8, kc_1, kn_1, kc_2, kn_2, kc_3, kn_3, kc_4, kn_4, kc_5, kn_5, kc_6, kn_6, kc_7, kn_7, kc_8, kn_8, kc_9, kn_9, kc_10, kn_10, kc_11, kn_11, kc_12, kn_12, kc_13, kn_13, kc_14, kn_14, kc_15, kn_15, kc_16, kc_17, kc_18, kc_19, kc_20, kc_21, kc_22, kc_23, kc_30, kc_32, kc_40, kc_43, kc_45, kc_48, kc_52, kc_56, kc_57, kc_59, kc_60, kc_61, kc_63, kc_64, kc_72, kc_78, kc_97, kc_99, kc_122, kc_126, kc_128, kc_192, kc_200, kc_255, kc_999, kc_1000, kc_9999, kn_9999, kc_10000, kc_12345, kc_65536, kc_252645135, kc_858993459, kc_1103515245, kc_1431655765, kc_2147483647, kc_0, kc_24, kc_28, kc_37, kc_41, kc_42, kc_73, kc_91, kc_95, kc_96, kc_98, kc_100, kc_112, kc_125, kc_150, kc_162, kc_163, kc_168, kc_186, kc_190, kc_250, kc_355, kc_356, kc_404, kc_405, kc_429, kc_573, kc_1002, kc_1100, kc_1891, kc_2200, kc_4719, kc_4869, kc_4881, kc_5148, kc_19741, kc_25433, kc_320403, kc_628412, kc_629093, kc_660401, kc_679843, kc_918640, kc_979410, kc_1178088, kc_6232410, kc_24644941, kc_36238189, kc_38270444, kc_392531318, kc_425693491, kc_1342154595, kc_2147483648, kc_42328242873, kc_891704255789, kc_1722105685577, kc_1858726030364, ct_0, ct_1, ct_2, ct_3, ct_4, ct_5, cf_0, cf_1, cf_2, cf_3, cf_4, cf_5, w_ty6, w_ty7, m_sv, m_z0, m_hd, m_g0, m_gs, m_s0, m_ss, m_ap, m_an, forall_const, true_and, and_true, ne_eq, not_true_eq_false, not_false_eq_true, false_implies, true_implies, implies_true, eq_self, reduceCtorEq, Nat.reduceDiv, Nat.reduceMod, Int.reduceToNat, or_true, true_or, or_false, false_or, or_self, m_it, m_if, m_c1, m_01, m_02, m_03, m_04, m_10, m_12, m_13, m_14, m_20, m_21, m_23, m_24, m_30, m_31, m_32, m_34, m_40, m_41, m_42, m_43, Int.reduceLE, Int.reduceLT, Int.reduceGE, Int.reduceGT, Int.reduceNeg, Int.reduceAdd, Int.reduceSub, Int.reduceMul, Int.reduceEq, Int.reduceNe, Nat.reduceAdd, jun2, ro_0_0, ro_0_1, ro_0_2, ro_0_3, ro_0_4, ro_0_5, ro_0_6, ro_0_7, ro_0_8, ro_0_9, ro_0_10, ro_0_11, ro_0_12, ro_1_0, ro_1_1, ro_2_0, ro_4_0, ro_6_0, ro_6_1, ro_6_2, ro_6_3, ro_6_4, ro_6_5, ro_6_6, ro_6_7, ro_6_8, ro_8_0, ro_10_0, ro_12_0, ro_14_0, ro_16_0, ro_18_0, ro_20_0, ro_22_0, ro_22_1, ro_22_2, ro_23_0, ro_25_0, ro_27_0, ro_29_0, ro_29_1, ro_29_2, ro_29_3, ro_29_4, ro_29_5, ro_29_6, ro_29_7, ro_29_8, ro_31_0, ro_33_0, ro_35_0, ro_37_0, ro_39_0, ro_41_0, ro_43_0, ro_45_0, ro_45_1, ro_45_2, ro_46_0, ro_48_0, ro_50_0, ro_52_0, ro_52_1, ro_52_2, ro_52_3, ro_53_0, ro_55_0, ro_57_0, ro_59_0, ro_61_0, ro_61_1, ro_61_2, ro_61_3, ro_62_0, ro_64_0, ro_66_0, ro_68_0, ro_70_0, ro_70_1, ro_70_2, ro_70_3, ro_70_4, ro_70_5, ro_70_6, ro_70_7, ro_70_8, ro_70_9, ro_71_0, ro_73_0, ro_75_0, ro_77_0, ro_79_0, ro_81_0, ro_83_0, ro_85_0, ro_87_0, ro_89_0, ro_91_0, ro_91_1, ro_91_2, ro_91_3, ro_91_4, ro_91_5, ro_91_6, ro_91_7, ro_91_8, ro_91_9, ro_92_0, ro_94_0, ro_96_0, ro_98_0, ro_100_0, ro_102_0, ro_104_0, ro_106_0, ro_108_0, ro_110_0, ro_112_0, ro_112_1, ro_112_2, ro_112_3, ro_112_4, ro_112_5, ro_112_6, ro_112_7, ro_112_8, ro_112_9, ro_113_0, ro_115_0, ro_117_0, ro_119_0, ro_121_0, ro_123_0, ro_125_0, ro_127_0, ro_129_0, ro_131_0, ro_133_0, ro_133_1, ro_133_2, ro_133_3, ro_133_4, ro_133_5, ro_133_6, ro_133_7, ro_133_8, ro_133_9, ro_134_0, ro_136_0, ro_138_0, ro_140_0, ro_142_0, ro_144_0, ro_146_0, ro_148_0, ro_150_0, ro_152_0, ro_154_0, ro_155_0, ro_157_0, ro_157_1, ro_157_2, ro_157_3, ro_157_4, ro_157_5, ro_157_6, ro_157_7, ro_157_8, ro_157_9, ro_158_0, ro_160_0, ro_162_0, ro_164_0, ro_166_0, ro_168_0, ro_170_0, ro_172_0, ro_174_0, ro_176_0, ro_178_0, ro_180_0, ro_182_1, ro_182_4, ro_182_5, ro_182_6, ro_182_9, ro_182_10, ro_182_11, ro_182_13, ro_182_14, ro_182_15, ro_182_16, ro_182_17, ro_182_20, ro_182_21, ro_182_22, ro_182_23, ro_182_24, ro_182_26, ro_182_27, ro_182_28, lo_3, lo_5, lo_7, lo_9, lo_11, lo_13, lo_15, lo_17, lo_19, lo_21, lo_24, lo_26, lo_28, lo_30, lo_32, lo_34, lo_36, lo_38, lo_40, lo_42, lo_44, lo_47, lo_49, lo_51, lo_54, lo_56, lo_58, lo_60, lo_63, lo_65, lo_67, lo_69, lo_72, lo_74, lo_76, lo_78, lo_80, lo_82, lo_84, lo_86, lo_88, lo_90, lo_93, lo_95, lo_97, lo_99, lo_101, lo_103, lo_105, lo_107, lo_109, lo_111, lo_114, lo_116, lo_118, lo_120, lo_122, lo_124, lo_126, lo_128, lo_130, lo_132, lo_135, lo_137, lo_139, lo_141, lo_143, lo_145, lo_147, lo_149, lo_151, lo_153, lo_156, lo_159, lo_161, lo_163, lo_165, lo_167, lo_169, lo_171, lo_173, lo_175, lo_177, lo_179, lo_181, lo_183, lo_184, lo_185, lo_186, lo_187, lo_188, lo_189, lo_190, lo_191, lo_192, lo_193, lo_194, lo_195, lo_196, lo_197, lo_198, lo_199, lo_200, lo_201, lo_202, lo_203, jp_nn, jp_eq, jp_e1, Classical.not_not, ji0, ji1, ji2, cs26_72, kk_72, cs26_63, kk_63, cs26_77, kk_77, cs26_133, kk_133, cs26_121, kk_121, cs26_129, kk_129, cs26_130, kk_130, cs26_131, kk_131, cs26_132, kk_132, jl_0, jl_1, jl_2, jl_3, jl_4, jl_5, jl_6, jl_7, jl_8, jl_9, jl_10, jl_11, jl_12, jl_13, jl_14, jl_15, jl_16, jl_17, jl_18, jl_19, jl_20, jl_21, jl_22, jl_23, jl_24, jl_25, jl_26, jl_27, jl_28, jl_29, jl_30, jl_31, jl_32, jl_33, jl_34, jl_35, jl_36, jl_37, jl_38, jl_39, jl_40, jl_95, jl_96, jl_97, jl_98, jl_99, jl_100, jl_101, jl_102, jl_103, jl_104, jl_105, jl_106, jl_107, jl_108, jl_109, jl_110, jl_111, jl_112, jl_113, jl_114, jl_186, jl_1100, jr, ju, jpT, jpF, tnc, Nat.reduceEqDiff, reduceIte, and_false, false_and, not_true_eq_false, not_false_eq_true, or_false, gt_iff_lt, ge_iff_le, Int.lt_irrefl, Int.le_refl, yk, yk', y0', ek, m4_w, hw, z30, z31_w]
              exact ⟨T, i, D, L, t4_w, lt, cd4, ln4, by omega, fun f h5 e f5_w e6_w _ => bad_w f h5 (q.symm.trans e) f5_w e6_w _, fun x j h5 e f5_w e6_w ln5 t5_w _ => good_w x j h5 (q.symm.trans e) f5_w e6_w ln5 t5_w _⟩
          · have hw : wrd (h4 2 3) (h4 2 6) = 10 := hw0.trans y10
            have wv : wHere (tS T) (tV T) wl 9 4 i = 1 := w4_w.trans (by rw [hw]; rfl)
            by_cases y30 : L.length = 30
            · have z30 : (30 : Int) ≤ (L.length : Int) := by omega
              have z31_w : ¬ (L.length : Int) < 30 := by omega
              have q : sWy T D L.length i = .error (er (tP T) 5 i) := by
                unfold sWy sWx
                rw [wv, if_neg (by decide), if_pos y30]
                rfl
              simp only [qe_1, qe_3, qe_4, qe_5, qe_7, qe_72, qe_10, qe_102, qe_13, qe_14, qe_15, qe_16, qe_17, qe_18, qe_20, qe_22, qe_23, qe_21, qe_24, qe_25, qe_26, qe_27, qe_28, qe_30, qe_31, qe_32, qc_20, qc_22, qc_23, qc_21, qc_24, qc_25, qc_26, qc_27, qc_1, qc_3, qc_4, qc_7, qc_13, qc_28, qc_32, qs_1, qs_2, qs_3, qs_4, qs_5, qs_6, qs_9, qs_10, qs_11, qs_14, qs_15, qs_16, qs_27, qs_17, qs_18, qs_19, qs_20, qs_22, qs_23, qs_28, qs_25, qs_26, qs_7, qs_8, kc_1, kn_1, kc_2, kn_2, kc_3, kn_3, kc_4, kn_4, kc_5, kn_5, kc_6, kn_6, kc_7, kn_7, kc_8, kn_8, kc_9, kn_9, kc_10, kn_10, kc_11, kn_11, kc_12, kn_12, kc_13, kn_13, kc_14, kn_14, kc_15, kn_15, kc_16, kc_17, kc_18, kc_19, kc_20, kc_21, kc_22, kc_23, kc_30, kc_32, kc_40, kc_43, kc_45, kc_48, kc_52, kc_56, kc_57, kc_59, kc_60, kc_61, kc_63, kc_64, kc_72, kc_78, kc_97, kc_99, kc_122, kc_126, kc_128, kc_192, kc_200, kc_255, kc_999, kc_1000, kc_9999, kn_9999, kc_10000, kc_12345, kc_65536, kc_252645135, kc_858993459, kc_1103515245, kc_1431655765, kc_2147483647, kc_0, kc_24, kc_28, kc_37, kc_41, kc_42, kc_73, kc_91, kc_95, kc_96, kc_98, kc_100, kc_112, kc_125, kc_150, kc_162, kc_163, kc_168, kc_186, kc_190, kc_250, kc_355, kc_356, kc_404, kc_405, kc_429, kc_573, kc_1002, kc_1100, kc_1891, kc_2200, kc_4719, kc_4869, kc_4881, kc_5148, kc_19741, kc_25433, kc_320403, kc_628412, kc_629093, kc_660401, kc_679843, kc_918640, kc_979410, kc_1178088, kc_6232410, kc_24644941, kc_36238189, kc_38270444, kc_392531318, kc_425693491, kc_1342154595, kc_2147483648, kc_42328242873, kc_891704255789, kc_1722105685577, kc_1858726030364, ct_0, ct_1, ct_2, ct_3, ct_4, ct_5, cf_0, cf_1, cf_2, cf_3, cf_4, cf_5, w_ty6, w_ty7, m_sv, m_z0, m_hd, m_g0, m_gs, m_s0, m_ss, m_ap, m_an, forall_const, true_and, and_true, ne_eq, not_true_eq_false, not_false_eq_true, false_implies, true_implies, implies_true, eq_self, reduceCtorEq, Nat.reduceDiv, Nat.reduceMod, Int.reduceToNat, or_true, true_or, or_false, false_or, or_self, m_it, m_if, m_c1, m_01, m_02, m_03, m_04, m_10, m_12, m_13, m_14, m_20, m_21, m_23, m_24, m_30, m_31, m_32, m_34, m_40, m_41, m_42, m_43, Int.reduceLE, Int.reduceLT, Int.reduceGE, Int.reduceGT, Int.reduceNeg, Int.reduceAdd, Int.reduceSub, Int.reduceMul, Int.reduceEq, Int.reduceNe, Nat.reduceAdd, jun2, ro_0_0, ro_0_1, ro_0_2, ro_0_3, ro_0_4, ro_0_5, ro_0_6, ro_0_7, ro_0_8, ro_0_9, ro_0_10, ro_0_11, ro_0_12, ro_1_0, ro_1_1, ro_2_0, ro_4_0, ro_6_0, ro_6_1, ro_6_2, ro_6_3, ro_6_4, ro_6_5, ro_6_6, ro_6_7, ro_6_8, ro_8_0, ro_10_0, ro_12_0, ro_14_0, ro_16_0, ro_18_0, ro_20_0, ro_22_0, ro_22_1, ro_22_2, ro_23_0, ro_25_0, ro_27_0, ro_29_0, ro_29_1, ro_29_2, ro_29_3, ro_29_4, ro_29_5, ro_29_6, ro_29_7, ro_29_8, ro_31_0, ro_33_0, ro_35_0, ro_37_0, ro_39_0, ro_41_0, ro_43_0, ro_45_0, ro_45_1, ro_45_2, ro_46_0, ro_48_0, ro_50_0, ro_52_0, ro_52_1, ro_52_2, ro_52_3, ro_53_0, ro_55_0, ro_57_0, ro_59_0, ro_61_0, ro_61_1, ro_61_2, ro_61_3, ro_62_0, ro_64_0, ro_66_0, ro_68_0, ro_70_0, ro_70_1, ro_70_2, ro_70_3, ro_70_4, ro_70_5, ro_70_6, ro_70_7, ro_70_8, ro_70_9, ro_71_0, ro_73_0, ro_75_0, ro_77_0, ro_79_0, ro_81_0, ro_83_0, ro_85_0, ro_87_0, ro_89_0, ro_91_0, ro_91_1, ro_91_2, ro_91_3, ro_91_4, ro_91_5, ro_91_6, ro_91_7, ro_91_8, ro_91_9, ro_92_0, ro_94_0, ro_96_0, ro_98_0, ro_100_0, ro_102_0, ro_104_0, ro_106_0, ro_108_0, ro_110_0, ro_112_0, ro_112_1, ro_112_2, ro_112_3, ro_112_4, ro_112_5, ro_112_6, ro_112_7, ro_112_8, ro_112_9, ro_113_0, ro_115_0, ro_117_0, ro_119_0, ro_121_0, ro_123_0, ro_125_0, ro_127_0, ro_129_0, ro_131_0, ro_133_0, ro_133_1, ro_133_2, ro_133_3, ro_133_4, ro_133_5, ro_133_6, ro_133_7, ro_133_8, ro_133_9, ro_134_0, ro_136_0, ro_138_0, ro_140_0, ro_142_0, ro_144_0, ro_146_0, ro_148_0, ro_150_0, ro_152_0, ro_154_0, ro_155_0, ro_157_0, ro_157_1, ro_157_2, ro_157_3, ro_157_4, ro_157_5, ro_157_6, ro_157_7, ro_157_8, ro_157_9, ro_158_0, ro_160_0, ro_162_0, ro_164_0, ro_166_0, ro_168_0, ro_170_0, ro_172_0, ro_174_0, ro_176_0, ro_178_0, ro_180_0, ro_182_1, ro_182_4, ro_182_5, ro_182_6, ro_182_9, ro_182_10, ro_182_11, ro_182_13, ro_182_14, ro_182_15, ro_182_16, ro_182_17, ro_182_20, ro_182_21, ro_182_22, ro_182_23, ro_182_24, ro_182_26, ro_182_27, ro_182_28, lo_3, lo_5, lo_7, lo_9, lo_11, lo_13, lo_15, lo_17, lo_19, lo_21, lo_24, lo_26, lo_28, lo_30, lo_32, lo_34, lo_36, lo_38, lo_40, lo_42, lo_44, lo_47, lo_49, lo_51, lo_54, lo_56, lo_58, lo_60, lo_63, lo_65, lo_67, lo_69, lo_72, lo_74, lo_76, lo_78, lo_80, lo_82, lo_84, lo_86, lo_88, lo_90, lo_93, lo_95, lo_97, lo_99, lo_101, lo_103, lo_105, lo_107, lo_109, lo_111, lo_114, lo_116, lo_118, lo_120, lo_122, lo_124, lo_126, lo_128, lo_130, lo_132, lo_135, lo_137, lo_139, lo_141, lo_143, lo_145, lo_147, lo_149, lo_151, lo_153, lo_156, lo_159, lo_161, lo_163, lo_165, lo_167, lo_169, lo_171, lo_173, lo_175, lo_177, lo_179, lo_181, lo_183, lo_184, lo_185, lo_186, lo_187, lo_188, lo_189, lo_190, lo_191, lo_192, lo_193, lo_194, lo_195, lo_196, lo_197, lo_198, lo_199, lo_200, lo_201, lo_202, lo_203, jp_nn, jp_eq, jp_e1, Classical.not_not, ji0, ji1, ji2, cs26_72, kk_72, cs26_63, kk_63, cs26_77, kk_77, cs26_133, kk_133, cs26_121, kk_121, cs26_129, kk_129, cs26_130, kk_130, cs26_131, kk_131, cs26_132, kk_132, jl_0, jl_1, jl_2, jl_3, jl_4, jl_5, jl_6, jl_7, jl_8, jl_9, jl_10, jl_11, jl_12, jl_13, jl_14, jl_15, jl_16, jl_17, jl_18, jl_19, jl_20, jl_21, jl_22, jl_23, jl_24, jl_25, jl_26, jl_27, jl_28, jl_29, jl_30, jl_31, jl_32, jl_33, jl_34, jl_35, jl_36, jl_37, jl_38, jl_39, jl_40, jl_95, jl_96, jl_97, jl_98, jl_99, jl_100, jl_101, jl_102, jl_103, jl_104, jl_105, jl_106, jl_107, jl_108, jl_109, jl_110, jl_111, jl_112, jl_113, jl_114, jl_186, jl_1100, jr, ju, jpT, jpF, tnc, Nat.reduceEqDiff, reduceIte, and_false, false_and, not_true_eq_false, not_false_eq_true, or_false, gt_iff_lt, ge_iff_le, Int.lt_irrefl, Int.le_refl, yk, yk', y0', ek, m4_w, hw, z30, z31_w, e5_w]
              exact bad_w _ _ q (FWk.up (by omega)) up_eq _
            · have z30 : ¬ (30 : Int) ≤ (L.length : Int) := by omega
              have z31_w : (L.length : Int) < 30 := by omega
              have q := ux 1 wv (by decide) (by omega)
              simp only [qe_1, qe_3, qe_4, qe_5, qe_7, qe_72, qe_10, qe_102, qe_13, qe_14, qe_15, qe_16, qe_17, qe_18, qe_20, qe_22, qe_23, qe_21, qe_24, qe_25, qe_26, qe_27, qe_28, qe_30, qe_31, qe_32, qc_20, qc_22, qc_23, qc_21, qc_24, qc_25, qc_26, qc_27, qc_1, qc_3, qc_4, qc_7, qc_13, qc_28, qc_32, qs_1, qs_2, qs_3, qs_4, qs_5, qs_6, qs_9, qs_10, qs_11, qs_14, qs_15, qs_16, qs_27, qs_17, qs_18, qs_19, qs_20, qs_22, qs_23, qs_28, qs_25, qs_26, qs_7, qs_8, kc_1, kn_1, kc_2, kn_2, kc_3, kn_3, kc_4, kn_4, kc_5, kn_5, kc_6, kn_6, kc_7, kn_7, kc_8, kn_8, kc_9, kn_9, kc_10, kn_10, kc_11, kn_11, kc_12, kn_12, kc_13, kn_13, kc_14, kn_14, kc_15, kn_15, kc_16, kc_17, kc_18, kc_19, kc_20, kc_21, kc_22, kc_23, kc_30, kc_32, kc_40, kc_43, kc_45, kc_48, kc_52, kc_56, kc_57, kc_59, kc_60, kc_61, kc_63, kc_64, kc_72, kc_78, kc_97, kc_99, kc_122, kc_126, kc_128, kc_192, kc_200, kc_255, kc_999, kc_1000, kc_9999, kn_9999, kc_10000, kc_12345, kc_65536, kc_252645135, kc_858993459, kc_1103515245, kc_1431655765, kc_2147483647, kc_0, kc_24, kc_28, kc_37, kc_41, kc_42, kc_73, kc_91, kc_95, kc_96, kc_98, kc_100, kc_112, kc_125, kc_150, kc_162, kc_163, kc_168, kc_186, kc_190, kc_250, kc_355, kc_356, kc_404, kc_405, kc_429, kc_573, kc_1002, kc_1100, kc_1891, kc_2200, kc_4719, kc_4869, kc_4881, kc_5148, kc_19741, kc_25433, kc_320403, kc_628412, kc_629093, kc_660401, kc_679843, kc_918640, kc_979410, kc_1178088, kc_6232410, kc_24644941, kc_36238189, kc_38270444, kc_392531318, kc_425693491, kc_1342154595, kc_2147483648, kc_42328242873, kc_891704255789, kc_1722105685577, kc_1858726030364, ct_0, ct_1, ct_2, ct_3, ct_4, ct_5, cf_0, cf_1, cf_2, cf_3, cf_4, cf_5, w_ty6, w_ty7, m_sv, m_z0, m_hd, m_g0, m_gs, m_s0, m_ss, m_ap, m_an, forall_const, true_and, and_true, ne_eq, not_true_eq_false, not_false_eq_true, false_implies, true_implies, implies_true, eq_self, reduceCtorEq, Nat.reduceDiv, Nat.reduceMod, Int.reduceToNat, or_true, true_or, or_false, false_or, or_self, m_it, m_if, m_c1, m_01, m_02, m_03, m_04, m_10, m_12, m_13, m_14, m_20, m_21, m_23, m_24, m_30, m_31, m_32, m_34, m_40, m_41, m_42, m_43, Int.reduceLE, Int.reduceLT, Int.reduceGE, Int.reduceGT, Int.reduceNeg, Int.reduceAdd, Int.reduceSub, Int.reduceMul, Int.reduceEq, Int.reduceNe, Nat.reduceAdd, jun2, ro_0_0, ro_0_1, ro_0_2, ro_0_3, ro_0_4, ro_0_5, ro_0_6, ro_0_7, ro_0_8, ro_0_9, ro_0_10, ro_0_11, ro_0_12, ro_1_0, ro_1_1, ro_2_0, ro_4_0, ro_6_0, ro_6_1, ro_6_2, ro_6_3, ro_6_4, ro_6_5, ro_6_6, ro_6_7, ro_6_8, ro_8_0, ro_10_0, ro_12_0, ro_14_0, ro_16_0, ro_18_0, ro_20_0, ro_22_0, ro_22_1, ro_22_2, ro_23_0, ro_25_0, ro_27_0, ro_29_0, ro_29_1, ro_29_2, ro_29_3, ro_29_4, ro_29_5, ro_29_6, ro_29_7, ro_29_8, ro_31_0, ro_33_0, ro_35_0, ro_37_0, ro_39_0, ro_41_0, ro_43_0, ro_45_0, ro_45_1, ro_45_2, ro_46_0, ro_48_0, ro_50_0, ro_52_0, ro_52_1, ro_52_2, ro_52_3, ro_53_0, ro_55_0, ro_57_0, ro_59_0, ro_61_0, ro_61_1, ro_61_2, ro_61_3, ro_62_0, ro_64_0, ro_66_0, ro_68_0, ro_70_0, ro_70_1, ro_70_2, ro_70_3, ro_70_4, ro_70_5, ro_70_6, ro_70_7, ro_70_8, ro_70_9, ro_71_0, ro_73_0, ro_75_0, ro_77_0, ro_79_0, ro_81_0, ro_83_0, ro_85_0, ro_87_0, ro_89_0, ro_91_0, ro_91_1, ro_91_2, ro_91_3, ro_91_4, ro_91_5, ro_91_6, ro_91_7, ro_91_8, ro_91_9, ro_92_0, ro_94_0, ro_96_0, ro_98_0, ro_100_0, ro_102_0, ro_104_0, ro_106_0, ro_108_0, ro_110_0, ro_112_0, ro_112_1, ro_112_2, ro_112_3, ro_112_4, ro_112_5, ro_112_6, ro_112_7, ro_112_8, ro_112_9, ro_113_0, ro_115_0, ro_117_0, ro_119_0, ro_121_0, ro_123_0, ro_125_0, ro_127_0, ro_129_0, ro_131_0, ro_133_0, ro_133_1, ro_133_2, ro_133_3, ro_133_4, ro_133_5, ro_133_6, ro_133_7, ro_133_8, ro_133_9, ro_134_0, ro_136_0, ro_138_0, ro_140_0, ro_142_0, ro_144_0, ro_146_0, ro_148_0, ro_150_0, ro_152_0, ro_154_0, ro_155_0, ro_157_0, ro_157_1, ro_157_2, ro_157_3, ro_157_4, ro_157_5, ro_157_6, ro_157_7, ro_157_8, ro_157_9, ro_158_0, ro_160_0, ro_162_0, ro_164_0, ro_166_0, ro_168_0, ro_170_0, ro_172_0, ro_174_0, ro_176_0, ro_178_0, ro_180_0, ro_182_1, ro_182_4, ro_182_5, ro_182_6, ro_182_9, ro_182_10, ro_182_11, ro_182_13, ro_182_14, ro_182_15, ro_182_16, ro_182_17, ro_182_20, ro_182_21, ro_182_22, ro_182_23, ro_182_24, ro_182_26, ro_182_27, ro_182_28, lo_3, lo_5, lo_7, lo_9, lo_11, lo_13, lo_15, lo_17, lo_19, lo_21, lo_24, lo_26, lo_28, lo_30, lo_32, lo_34, lo_36, lo_38, lo_40, lo_42, lo_44, lo_47, lo_49, lo_51, lo_54, lo_56, lo_58, lo_60, lo_63, lo_65, lo_67, lo_69, lo_72, lo_74, lo_76, lo_78, lo_80, lo_82, lo_84, lo_86, lo_88, lo_90, lo_93, lo_95, lo_97, lo_99, lo_101, lo_103, lo_105, lo_107, lo_109, lo_111, lo_114, lo_116, lo_118, lo_120, lo_122, lo_124, lo_126, lo_128, lo_130, lo_132, lo_135, lo_137, lo_139, lo_141, lo_143, lo_145, lo_147, lo_149, lo_151, lo_153, lo_156, lo_159, lo_161, lo_163, lo_165, lo_167, lo_169, lo_171, lo_173, lo_175, lo_177, lo_179, lo_181, lo_183, lo_184, lo_185, lo_186, lo_187, lo_188, lo_189, lo_190, lo_191, lo_192, lo_193, lo_194, lo_195, lo_196, lo_197, lo_198, lo_199, lo_200, lo_201, lo_202, lo_203, jp_nn, jp_eq, jp_e1, Classical.not_not, ji0, ji1, ji2, cs26_72, kk_72, cs26_63, kk_63, cs26_77, kk_77, cs26_133, kk_133, cs26_121, kk_121, cs26_129, kk_129, cs26_130, kk_130, cs26_131, kk_131, cs26_132, kk_132, jl_0, jl_1, jl_2, jl_3, jl_4, jl_5, jl_6, jl_7, jl_8, jl_9, jl_10, jl_11, jl_12, jl_13, jl_14, jl_15, jl_16, jl_17, jl_18, jl_19, jl_20, jl_21, jl_22, jl_23, jl_24, jl_25, jl_26, jl_27, jl_28, jl_29, jl_30, jl_31, jl_32, jl_33, jl_34, jl_35, jl_36, jl_37, jl_38, jl_39, jl_40, jl_95, jl_96, jl_97, jl_98, jl_99, jl_100, jl_101, jl_102, jl_103, jl_104, jl_105, jl_106, jl_107, jl_108, jl_109, jl_110, jl_111, jl_112, jl_113, jl_114, jl_186, jl_1100, jr, ju, jpT, jpF, tnc, Nat.reduceEqDiff, reduceIte, and_false, false_and, not_true_eq_false, not_false_eq_true, or_false, gt_iff_lt, ge_iff_le, Int.lt_irrefl, Int.le_refl, yk, yk', y0', ek, m4_w, hw, z30, z31_w]
              exact ⟨T, i, D, L, t4_w, lt, cd4, ln4, by omega, fun f h5 e f5_w e6_w _ => bad_w f h5 (q.symm.trans e) f5_w e6_w _, fun x j h5 e f5_w e6_w ln5 t5_w _ => good_w x j h5 (q.symm.trans e) f5_w e6_w ln5 t5_w _⟩
          · have hw : wrd (h4 2 3) (h4 2 6) = 11 := hw0.trans y11
            have wv : wHere (tS T) (tV T) wl 9 4 i = 2 := w4_w.trans (by rw [hw]; rfl)
            by_cases y30 : L.length = 30
            · have z30 : (30 : Int) ≤ (L.length : Int) := by omega
              have z31_w : ¬ (L.length : Int) < 30 := by omega
              have q : sWy T D L.length i = .error (er (tP T) 5 i) := by
                unfold sWy sWx
                rw [wv, if_neg (by decide), if_pos y30]
                rfl
              simp only [qe_1, qe_3, qe_4, qe_5, qe_7, qe_72, qe_10, qe_102, qe_13, qe_14, qe_15, qe_16, qe_17, qe_18, qe_20, qe_22, qe_23, qe_21, qe_24, qe_25, qe_26, qe_27, qe_28, qe_30, qe_31, qe_32, qc_20, qc_22, qc_23, qc_21, qc_24, qc_25, qc_26, qc_27, qc_1, qc_3, qc_4, qc_7, qc_13, qc_28, qc_32, qs_1, qs_2, qs_3, qs_4, qs_5, qs_6, qs_9, qs_10, qs_11, qs_14, qs_15, qs_16, qs_27, qs_17, qs_18, qs_19, qs_20, qs_22, qs_23, qs_28, qs_25, qs_26, qs_7, qs_8, kc_1, kn_1, kc_2, kn_2, kc_3, kn_3, kc_4, kn_4, kc_5, kn_5, kc_6, kn_6, kc_7, kn_7, kc_8, kn_8, kc_9, kn_9, kc_10, kn_10, kc_11, kn_11, kc_12, kn_12, kc_13, kn_13, kc_14, kn_14, kc_15, kn_15, kc_16, kc_17, kc_18, kc_19, kc_20, kc_21, kc_22, kc_23, kc_30, kc_32, kc_40, kc_43, kc_45, kc_48, kc_52, kc_56, kc_57, kc_59, kc_60, kc_61, kc_63, kc_64, kc_72, kc_78, kc_97, kc_99, kc_122, kc_126, kc_128, kc_192, kc_200, kc_255, kc_999, kc_1000, kc_9999, kn_9999, kc_10000, kc_12345, kc_65536, kc_252645135, kc_858993459, kc_1103515245, kc_1431655765, kc_2147483647, kc_0, kc_24, kc_28, kc_37, kc_41, kc_42, kc_73, kc_91, kc_95, kc_96, kc_98, kc_100, kc_112, kc_125, kc_150, kc_162, kc_163, kc_168, kc_186, kc_190, kc_250, kc_355, kc_356, kc_404, kc_405, kc_429, kc_573, kc_1002, kc_1100, kc_1891, kc_2200, kc_4719, kc_4869, kc_4881, kc_5148, kc_19741, kc_25433, kc_320403, kc_628412, kc_629093, kc_660401, kc_679843, kc_918640, kc_979410, kc_1178088, kc_6232410, kc_24644941, kc_36238189, kc_38270444, kc_392531318, kc_425693491, kc_1342154595, kc_2147483648, kc_42328242873, kc_891704255789, kc_1722105685577, kc_1858726030364, ct_0, ct_1, ct_2, ct_3, ct_4, ct_5, cf_0, cf_1, cf_2, cf_3, cf_4, cf_5, w_ty6, w_ty7, m_sv, m_z0, m_hd, m_g0, m_gs, m_s0, m_ss, m_ap, m_an, forall_const, true_and, and_true, ne_eq, not_true_eq_false, not_false_eq_true, false_implies, true_implies, implies_true, eq_self, reduceCtorEq, Nat.reduceDiv, Nat.reduceMod, Int.reduceToNat, or_true, true_or, or_false, false_or, or_self, m_it, m_if, m_c1, m_01, m_02, m_03, m_04, m_10, m_12, m_13, m_14, m_20, m_21, m_23, m_24, m_30, m_31, m_32, m_34, m_40, m_41, m_42, m_43, Int.reduceLE, Int.reduceLT, Int.reduceGE, Int.reduceGT, Int.reduceNeg, Int.reduceAdd, Int.reduceSub, Int.reduceMul, Int.reduceEq, Int.reduceNe, Nat.reduceAdd, jun2, ro_0_0, ro_0_1, ro_0_2, ro_0_3, ro_0_4, ro_0_5, ro_0_6, ro_0_7, ro_0_8, ro_0_9, ro_0_10, ro_0_11, ro_0_12, ro_1_0, ro_1_1, ro_2_0, ro_4_0, ro_6_0, ro_6_1, ro_6_2, ro_6_3, ro_6_4, ro_6_5, ro_6_6, ro_6_7, ro_6_8, ro_8_0, ro_10_0, ro_12_0, ro_14_0, ro_16_0, ro_18_0, ro_20_0, ro_22_0, ro_22_1, ro_22_2, ro_23_0, ro_25_0, ro_27_0, ro_29_0, ro_29_1, ro_29_2, ro_29_3, ro_29_4, ro_29_5, ro_29_6, ro_29_7, ro_29_8, ro_31_0, ro_33_0, ro_35_0, ro_37_0, ro_39_0, ro_41_0, ro_43_0, ro_45_0, ro_45_1, ro_45_2, ro_46_0, ro_48_0, ro_50_0, ro_52_0, ro_52_1, ro_52_2, ro_52_3, ro_53_0, ro_55_0, ro_57_0, ro_59_0, ro_61_0, ro_61_1, ro_61_2, ro_61_3, ro_62_0, ro_64_0, ro_66_0, ro_68_0, ro_70_0, ro_70_1, ro_70_2, ro_70_3, ro_70_4, ro_70_5, ro_70_6, ro_70_7, ro_70_8, ro_70_9, ro_71_0, ro_73_0, ro_75_0, ro_77_0, ro_79_0, ro_81_0, ro_83_0, ro_85_0, ro_87_0, ro_89_0, ro_91_0, ro_91_1, ro_91_2, ro_91_3, ro_91_4, ro_91_5, ro_91_6, ro_91_7, ro_91_8, ro_91_9, ro_92_0, ro_94_0, ro_96_0, ro_98_0, ro_100_0, ro_102_0, ro_104_0, ro_106_0, ro_108_0, ro_110_0, ro_112_0, ro_112_1, ro_112_2, ro_112_3, ro_112_4, ro_112_5, ro_112_6, ro_112_7, ro_112_8, ro_112_9, ro_113_0, ro_115_0, ro_117_0, ro_119_0, ro_121_0, ro_123_0, ro_125_0, ro_127_0, ro_129_0, ro_131_0, ro_133_0, ro_133_1, ro_133_2, ro_133_3, ro_133_4, ro_133_5, ro_133_6, ro_133_7, ro_133_8, ro_133_9, ro_134_0, ro_136_0, ro_138_0, ro_140_0, ro_142_0, ro_144_0, ro_146_0, ro_148_0, ro_150_0, ro_152_0, ro_154_0, ro_155_0, ro_157_0, ro_157_1, ro_157_2, ro_157_3, ro_157_4, ro_157_5, ro_157_6, ro_157_7, ro_157_8, ro_157_9, ro_158_0, ro_160_0, ro_162_0, ro_164_0, ro_166_0, ro_168_0, ro_170_0, ro_172_0, ro_174_0, ro_176_0, ro_178_0, ro_180_0, ro_182_1, ro_182_4, ro_182_5, ro_182_6, ro_182_9, ro_182_10, ro_182_11, ro_182_13, ro_182_14, ro_182_15, ro_182_16, ro_182_17, ro_182_20, ro_182_21, ro_182_22, ro_182_23, ro_182_24, ro_182_26, ro_182_27, ro_182_28, lo_3, lo_5, lo_7, lo_9, lo_11, lo_13, lo_15, lo_17, lo_19, lo_21, lo_24, lo_26, lo_28, lo_30, lo_32, lo_34, lo_36, lo_38, lo_40, lo_42, lo_44, lo_47, lo_49, lo_51, lo_54, lo_56, lo_58, lo_60, lo_63, lo_65, lo_67, lo_69, lo_72, lo_74, lo_76, lo_78, lo_80, lo_82, lo_84, lo_86, lo_88, lo_90, lo_93, lo_95, lo_97, lo_99, lo_101, lo_103, lo_105, lo_107, lo_109, lo_111, lo_114, lo_116, lo_118, lo_120, lo_122, lo_124, lo_126, lo_128, lo_130, lo_132, lo_135, lo_137, lo_139, lo_141, lo_143, lo_145, lo_147, lo_149, lo_151, lo_153, lo_156, lo_159, lo_161, lo_163, lo_165, lo_167, lo_169, lo_171, lo_173, lo_175, lo_177, lo_179, lo_181, lo_183, lo_184, lo_185, lo_186, lo_187, lo_188, lo_189, lo_190, lo_191, lo_192, lo_193, lo_194, lo_195, lo_196, lo_197, lo_198, lo_199, lo_200, lo_201, lo_202, lo_203, jp_nn, jp_eq, jp_e1, Classical.not_not, ji0, ji1, ji2, cs26_72, kk_72, cs26_63, kk_63, cs26_77, kk_77, cs26_133, kk_133, cs26_121, kk_121, cs26_129, kk_129, cs26_130, kk_130, cs26_131, kk_131, cs26_132, kk_132, jl_0, jl_1, jl_2, jl_3, jl_4, jl_5, jl_6, jl_7, jl_8, jl_9, jl_10, jl_11, jl_12, jl_13, jl_14, jl_15, jl_16, jl_17, jl_18, jl_19, jl_20, jl_21, jl_22, jl_23, jl_24, jl_25, jl_26, jl_27, jl_28, jl_29, jl_30, jl_31, jl_32, jl_33, jl_34, jl_35, jl_36, jl_37, jl_38, jl_39, jl_40, jl_95, jl_96, jl_97, jl_98, jl_99, jl_100, jl_101, jl_102, jl_103, jl_104, jl_105, jl_106, jl_107, jl_108, jl_109, jl_110, jl_111, jl_112, jl_113, jl_114, jl_186, jl_1100, jr, ju, jpT, jpF, tnc, Nat.reduceEqDiff, reduceIte, and_false, false_and, not_true_eq_false, not_false_eq_true, or_false, gt_iff_lt, ge_iff_le, Int.lt_irrefl, Int.le_refl, yk, yk', y0', ek, m4_w, hw, z30, z31_w, e5_w]
              exact bad_w _ _ q (FWk.up (by omega)) up_eq _
            · have z30 : ¬ (30 : Int) ≤ (L.length : Int) := by omega
              have z31_w : (L.length : Int) < 30 := by omega
              have q := ux 2 wv (by decide) (by omega)
              simp only [qe_1, qe_3, qe_4, qe_5, qe_7, qe_72, qe_10, qe_102, qe_13, qe_14, qe_15, qe_16, qe_17, qe_18, qe_20, qe_22, qe_23, qe_21, qe_24, qe_25, qe_26, qe_27, qe_28, qe_30, qe_31, qe_32, qc_20, qc_22, qc_23, qc_21, qc_24, qc_25, qc_26, qc_27, qc_1, qc_3, qc_4, qc_7, qc_13, qc_28, qc_32, qs_1, qs_2, qs_3, qs_4, qs_5, qs_6, qs_9, qs_10, qs_11, qs_14, qs_15, qs_16, qs_27, qs_17, qs_18, qs_19, qs_20, qs_22, qs_23, qs_28, qs_25, qs_26, qs_7, qs_8, kc_1, kn_1, kc_2, kn_2, kc_3, kn_3, kc_4, kn_4, kc_5, kn_5, kc_6, kn_6, kc_7, kn_7, kc_8, kn_8, kc_9, kn_9, kc_10, kn_10, kc_11, kn_11, kc_12, kn_12, kc_13, kn_13, kc_14, kn_14, kc_15, kn_15, kc_16, kc_17, kc_18, kc_19, kc_20, kc_21, kc_22, kc_23, kc_30, kc_32, kc_40, kc_43, kc_45, kc_48, kc_52, kc_56, kc_57, kc_59, kc_60, kc_61, kc_63, kc_64, kc_72, kc_78, kc_97, kc_99, kc_122, kc_126, kc_128, kc_192, kc_200, kc_255, kc_999, kc_1000, kc_9999, kn_9999, kc_10000, kc_12345, kc_65536, kc_252645135, kc_858993459, kc_1103515245, kc_1431655765, kc_2147483647, kc_0, kc_24, kc_28, kc_37, kc_41, kc_42, kc_73, kc_91, kc_95, kc_96, kc_98, kc_100, kc_112, kc_125, kc_150, kc_162, kc_163, kc_168, kc_186, kc_190, kc_250, kc_355, kc_356, kc_404, kc_405, kc_429, kc_573, kc_1002, kc_1100, kc_1891, kc_2200, kc_4719, kc_4869, kc_4881, kc_5148, kc_19741, kc_25433, kc_320403, kc_628412, kc_629093, kc_660401, kc_679843, kc_918640, kc_979410, kc_1178088, kc_6232410, kc_24644941, kc_36238189, kc_38270444, kc_392531318, kc_425693491, kc_1342154595, kc_2147483648, kc_42328242873, kc_891704255789, kc_1722105685577, kc_1858726030364, ct_0, ct_1, ct_2, ct_3, ct_4, ct_5, cf_0, cf_1, cf_2, cf_3, cf_4, cf_5, w_ty6, w_ty7, m_sv, m_z0, m_hd, m_g0, m_gs, m_s0, m_ss, m_ap, m_an, forall_const, true_and, and_true, ne_eq, not_true_eq_false, not_false_eq_true, false_implies, true_implies, implies_true, eq_self, reduceCtorEq, Nat.reduceDiv, Nat.reduceMod, Int.reduceToNat, or_true, true_or, or_false, false_or, or_self, m_it, m_if, m_c1, m_01, m_02, m_03, m_04, m_10, m_12, m_13, m_14, m_20, m_21, m_23, m_24, m_30, m_31, m_32, m_34, m_40, m_41, m_42, m_43, Int.reduceLE, Int.reduceLT, Int.reduceGE, Int.reduceGT, Int.reduceNeg, Int.reduceAdd, Int.reduceSub, Int.reduceMul, Int.reduceEq, Int.reduceNe, Nat.reduceAdd, jun2, ro_0_0, ro_0_1, ro_0_2, ro_0_3, ro_0_4, ro_0_5, ro_0_6, ro_0_7, ro_0_8, ro_0_9, ro_0_10, ro_0_11, ro_0_12, ro_1_0, ro_1_1, ro_2_0, ro_4_0, ro_6_0, ro_6_1, ro_6_2, ro_6_3, ro_6_4, ro_6_5, ro_6_6, ro_6_7, ro_6_8, ro_8_0, ro_10_0, ro_12_0, ro_14_0, ro_16_0, ro_18_0, ro_20_0, ro_22_0, ro_22_1, ro_22_2, ro_23_0, ro_25_0, ro_27_0, ro_29_0, ro_29_1, ro_29_2, ro_29_3, ro_29_4, ro_29_5, ro_29_6, ro_29_7, ro_29_8, ro_31_0, ro_33_0, ro_35_0, ro_37_0, ro_39_0, ro_41_0, ro_43_0, ro_45_0, ro_45_1, ro_45_2, ro_46_0, ro_48_0, ro_50_0, ro_52_0, ro_52_1, ro_52_2, ro_52_3, ro_53_0, ro_55_0, ro_57_0, ro_59_0, ro_61_0, ro_61_1, ro_61_2, ro_61_3, ro_62_0, ro_64_0, ro_66_0, ro_68_0, ro_70_0, ro_70_1, ro_70_2, ro_70_3, ro_70_4, ro_70_5, ro_70_6, ro_70_7, ro_70_8, ro_70_9, ro_71_0, ro_73_0, ro_75_0, ro_77_0, ro_79_0, ro_81_0, ro_83_0, ro_85_0, ro_87_0, ro_89_0, ro_91_0, ro_91_1, ro_91_2, ro_91_3, ro_91_4, ro_91_5, ro_91_6, ro_91_7, ro_91_8, ro_91_9, ro_92_0, ro_94_0, ro_96_0, ro_98_0, ro_100_0, ro_102_0, ro_104_0, ro_106_0, ro_108_0, ro_110_0, ro_112_0, ro_112_1, ro_112_2, ro_112_3, ro_112_4, ro_112_5, ro_112_6, ro_112_7, ro_112_8, ro_112_9, ro_113_0, ro_115_0, ro_117_0, ro_119_0, ro_121_0, ro_123_0, ro_125_0, ro_127_0, ro_129_0, ro_131_0, ro_133_0, ro_133_1, ro_133_2, ro_133_3, ro_133_4, ro_133_5, ro_133_6, ro_133_7, ro_133_8, ro_133_9, ro_134_0, ro_136_0, ro_138_0, ro_140_0, ro_142_0, ro_144_0, ro_146_0, ro_148_0, ro_150_0, ro_152_0, ro_154_0, ro_155_0, ro_157_0, ro_157_1, ro_157_2, ro_157_3, ro_157_4, ro_157_5, ro_157_6, ro_157_7, ro_157_8, ro_157_9, ro_158_0, ro_160_0, ro_162_0, ro_164_0, ro_166_0, ro_168_0, ro_170_0, ro_172_0, ro_174_0, ro_176_0, ro_178_0, ro_180_0, ro_182_1, ro_182_4, ro_182_5, ro_182_6, ro_182_9, ro_182_10, ro_182_11, ro_182_13, ro_182_14, ro_182_15, ro_182_16, ro_182_17, ro_182_20, ro_182_21, ro_182_22, ro_182_23, ro_182_24, ro_182_26, ro_182_27, ro_182_28, lo_3, lo_5, lo_7, lo_9, lo_11, lo_13, lo_15, lo_17, lo_19, lo_21, lo_24, lo_26, lo_28, lo_30, lo_32, lo_34, lo_36, lo_38, lo_40, lo_42, lo_44, lo_47, lo_49, lo_51, lo_54, lo_56, lo_58, lo_60, lo_63, lo_65, lo_67, lo_69, lo_72, lo_74, lo_76, lo_78, lo_80, lo_82, lo_84, lo_86, lo_88, lo_90, lo_93, lo_95, lo_97, lo_99, lo_101, lo_103, lo_105, lo_107, lo_109, lo_111, lo_114, lo_116, lo_118, lo_120, lo_122, lo_124, lo_126, lo_128, lo_130, lo_132, lo_135, lo_137, lo_139, lo_141, lo_143, lo_145, lo_147, lo_149, lo_151, lo_153, lo_156, lo_159, lo_161, lo_163, lo_165, lo_167, lo_169, lo_171, lo_173, lo_175, lo_177, lo_179, lo_181, lo_183, lo_184, lo_185, lo_186, lo_187, lo_188, lo_189, lo_190, lo_191, lo_192, lo_193, lo_194, lo_195, lo_196, lo_197, lo_198, lo_199, lo_200, lo_201, lo_202, lo_203, jp_nn, jp_eq, jp_e1, Classical.not_not, ji0, ji1, ji2, cs26_72, kk_72, cs26_63, kk_63, cs26_77, kk_77, cs26_133, kk_133, cs26_121, kk_121, cs26_129, kk_129, cs26_130, kk_130, cs26_131, kk_131, cs26_132, kk_132, jl_0, jl_1, jl_2, jl_3, jl_4, jl_5, jl_6, jl_7, jl_8, jl_9, jl_10, jl_11, jl_12, jl_13, jl_14, jl_15, jl_16, jl_17, jl_18, jl_19, jl_20, jl_21, jl_22, jl_23, jl_24, jl_25, jl_26, jl_27, jl_28, jl_29, jl_30, jl_31, jl_32, jl_33, jl_34, jl_35, jl_36, jl_37, jl_38, jl_39, jl_40, jl_95, jl_96, jl_97, jl_98, jl_99, jl_100, jl_101, jl_102, jl_103, jl_104, jl_105, jl_106, jl_107, jl_108, jl_109, jl_110, jl_111, jl_112, jl_113, jl_114, jl_186, jl_1100, jr, ju, jpT, jpF, tnc, Nat.reduceEqDiff, reduceIte, and_false, false_and, not_true_eq_false, not_false_eq_true, or_false, gt_iff_lt, ge_iff_le, Int.lt_irrefl, Int.le_refl, yk, yk', y0', ek, m4_w, hw, z30, z31_w]
              exact ⟨T, i, D, L, t4_w, lt, cd4, ln4, by omega, fun f h5 e f5_w e6_w _ => bad_w f h5 (q.symm.trans e) f5_w e6_w _, fun x j h5 e f5_w e6_w ln5 t5_w _ => good_w x j h5 (q.symm.trans e) f5_w e6_w ln5 t5_w _⟩
          · have hw : wrd (h4 2 3) (h4 2 6) = 12 := hw0.trans y12
            have wv : wHere (tS T) (tV T) wl 9 4 i = 3 := w4_w.trans (by rw [hw]; rfl)
            by_cases y30 : L.length = 30
            · have z30 : (30 : Int) ≤ (L.length : Int) := by omega
              have z31_w : ¬ (L.length : Int) < 30 := by omega
              have q : sWy T D L.length i = .error (er (tP T) 5 i) := by
                unfold sWy sWx
                rw [wv, if_neg (by decide), if_pos y30]
                rfl
              simp only [qe_1, qe_3, qe_4, qe_5, qe_7, qe_72, qe_10, qe_102, qe_13, qe_14, qe_15, qe_16, qe_17, qe_18, qe_20, qe_22, qe_23, qe_21, qe_24, qe_25, qe_26, qe_27, qe_28, qe_30, qe_31, qe_32, qc_20, qc_22, qc_23, qc_21, qc_24, qc_25, qc_26, qc_27, qc_1, qc_3, qc_4, qc_7, qc_13, qc_28, qc_32, qs_1, qs_2, qs_3, qs_4, qs_5, qs_6, qs_9, qs_10, qs_11, qs_14, qs_15, qs_16, qs_27, qs_17, qs_18, qs_19, qs_20, qs_22, qs_23, qs_28, qs_25, qs_26, qs_7, qs_8, kc_1, kn_1, kc_2, kn_2, kc_3, kn_3, kc_4, kn_4, kc_5, kn_5, kc_6, kn_6, kc_7, kn_7, kc_8, kn_8, kc_9, kn_9, kc_10, kn_10, kc_11, kn_11, kc_12, kn_12, kc_13, kn_13, kc_14, kn_14, kc_15, kn_15, kc_16, kc_17, kc_18, kc_19, kc_20, kc_21, kc_22, kc_23, kc_30, kc_32, kc_40, kc_43, kc_45, kc_48, kc_52, kc_56, kc_57, kc_59, kc_60, kc_61, kc_63, kc_64, kc_72, kc_78, kc_97, kc_99, kc_122, kc_126, kc_128, kc_192, kc_200, kc_255, kc_999, kc_1000, kc_9999, kn_9999, kc_10000, kc_12345, kc_65536, kc_252645135, kc_858993459, kc_1103515245, kc_1431655765, kc_2147483647, kc_0, kc_24, kc_28, kc_37, kc_41, kc_42, kc_73, kc_91, kc_95, kc_96, kc_98, kc_100, kc_112, kc_125, kc_150, kc_162, kc_163, kc_168, kc_186, kc_190, kc_250, kc_355, kc_356, kc_404, kc_405, kc_429, kc_573, kc_1002, kc_1100, kc_1891, kc_2200, kc_4719, kc_4869, kc_4881, kc_5148, kc_19741, kc_25433, kc_320403, kc_628412, kc_629093, kc_660401, kc_679843, kc_918640, kc_979410, kc_1178088, kc_6232410, kc_24644941, kc_36238189, kc_38270444, kc_392531318, kc_425693491, kc_1342154595, kc_2147483648, kc_42328242873, kc_891704255789, kc_1722105685577, kc_1858726030364, ct_0, ct_1, ct_2, ct_3, ct_4, ct_5, cf_0, cf_1, cf_2, cf_3, cf_4, cf_5, w_ty6, w_ty7, m_sv, m_z0, m_hd, m_g0, m_gs, m_s0, m_ss, m_ap, m_an, forall_const, true_and, and_true, ne_eq, not_true_eq_false, not_false_eq_true, false_implies, true_implies, implies_true, eq_self, reduceCtorEq, Nat.reduceDiv, Nat.reduceMod, Int.reduceToNat, or_true, true_or, or_false, false_or, or_self, m_it, m_if, m_c1, m_01, m_02, m_03, m_04, m_10, m_12, m_13, m_14, m_20, m_21, m_23, m_24, m_30, m_31, m_32, m_34, m_40, m_41, m_42, m_43, Int.reduceLE, Int.reduceLT, Int.reduceGE, Int.reduceGT, Int.reduceNeg, Int.reduceAdd, Int.reduceSub, Int.reduceMul, Int.reduceEq, Int.reduceNe, Nat.reduceAdd, jun2, ro_0_0, ro_0_1, ro_0_2, ro_0_3, ro_0_4, ro_0_5, ro_0_6, ro_0_7, ro_0_8, ro_0_9, ro_0_10, ro_0_11, ro_0_12, ro_1_0, ro_1_1, ro_2_0, ro_4_0, ro_6_0, ro_6_1, ro_6_2, ro_6_3, ro_6_4, ro_6_5, ro_6_6, ro_6_7, ro_6_8, ro_8_0, ro_10_0, ro_12_0, ro_14_0, ro_16_0, ro_18_0, ro_20_0, ro_22_0, ro_22_1, ro_22_2, ro_23_0, ro_25_0, ro_27_0, ro_29_0, ro_29_1, ro_29_2, ro_29_3, ro_29_4, ro_29_5, ro_29_6, ro_29_7, ro_29_8, ro_31_0, ro_33_0, ro_35_0, ro_37_0, ro_39_0, ro_41_0, ro_43_0, ro_45_0, ro_45_1, ro_45_2, ro_46_0, ro_48_0, ro_50_0, ro_52_0, ro_52_1, ro_52_2, ro_52_3, ro_53_0, ro_55_0, ro_57_0, ro_59_0, ro_61_0, ro_61_1, ro_61_2, ro_61_3, ro_62_0, ro_64_0, ro_66_0, ro_68_0, ro_70_0, ro_70_1, ro_70_2, ro_70_3, ro_70_4, ro_70_5, ro_70_6, ro_70_7, ro_70_8, ro_70_9, ro_71_0, ro_73_0, ro_75_0, ro_77_0, ro_79_0, ro_81_0, ro_83_0, ro_85_0, ro_87_0, ro_89_0, ro_91_0, ro_91_1, ro_91_2, ro_91_3, ro_91_4, ro_91_5, ro_91_6, ro_91_7, ro_91_8, ro_91_9, ro_92_0, ro_94_0, ro_96_0, ro_98_0, ro_100_0, ro_102_0, ro_104_0, ro_106_0, ro_108_0, ro_110_0, ro_112_0, ro_112_1, ro_112_2, ro_112_3, ro_112_4, ro_112_5, ro_112_6, ro_112_7, ro_112_8, ro_112_9, ro_113_0, ro_115_0, ro_117_0, ro_119_0, ro_121_0, ro_123_0, ro_125_0, ro_127_0, ro_129_0, ro_131_0, ro_133_0, ro_133_1, ro_133_2, ro_133_3, ro_133_4, ro_133_5, ro_133_6, ro_133_7, ro_133_8, ro_133_9, ro_134_0, ro_136_0, ro_138_0, ro_140_0, ro_142_0, ro_144_0, ro_146_0, ro_148_0, ro_150_0, ro_152_0, ro_154_0, ro_155_0, ro_157_0, ro_157_1, ro_157_2, ro_157_3, ro_157_4, ro_157_5, ro_157_6, ro_157_7, ro_157_8, ro_157_9, ro_158_0, ro_160_0, ro_162_0, ro_164_0, ro_166_0, ro_168_0, ro_170_0, ro_172_0, ro_174_0, ro_176_0, ro_178_0, ro_180_0, ro_182_1, ro_182_4, ro_182_5, ro_182_6, ro_182_9, ro_182_10, ro_182_11, ro_182_13, ro_182_14, ro_182_15, ro_182_16, ro_182_17, ro_182_20, ro_182_21, ro_182_22, ro_182_23, ro_182_24, ro_182_26, ro_182_27, ro_182_28, lo_3, lo_5, lo_7, lo_9, lo_11, lo_13, lo_15, lo_17, lo_19, lo_21, lo_24, lo_26, lo_28, lo_30, lo_32, lo_34, lo_36, lo_38, lo_40, lo_42, lo_44, lo_47, lo_49, lo_51, lo_54, lo_56, lo_58, lo_60, lo_63, lo_65, lo_67, lo_69, lo_72, lo_74, lo_76, lo_78, lo_80, lo_82, lo_84, lo_86, lo_88, lo_90, lo_93, lo_95, lo_97, lo_99, lo_101, lo_103, lo_105, lo_107, lo_109, lo_111, lo_114, lo_116, lo_118, lo_120, lo_122, lo_124, lo_126, lo_128, lo_130, lo_132, lo_135, lo_137, lo_139, lo_141, lo_143, lo_145, lo_147, lo_149, lo_151, lo_153, lo_156, lo_159, lo_161, lo_163, lo_165, lo_167, lo_169, lo_171, lo_173, lo_175, lo_177, lo_179, lo_181, lo_183, lo_184, lo_185, lo_186, lo_187, lo_188, lo_189, lo_190, lo_191, lo_192, lo_193, lo_194, lo_195, lo_196, lo_197, lo_198, lo_199, lo_200, lo_201, lo_202, lo_203, jp_nn, jp_eq, jp_e1, Classical.not_not, ji0, ji1, ji2, cs26_72, kk_72, cs26_63, kk_63, cs26_77, kk_77, cs26_133, kk_133, cs26_121, kk_121, cs26_129, kk_129, cs26_130, kk_130, cs26_131, kk_131, cs26_132, kk_132, jl_0, jl_1, jl_2, jl_3, jl_4, jl_5, jl_6, jl_7, jl_8, jl_9, jl_10, jl_11, jl_12, jl_13, jl_14, jl_15, jl_16, jl_17, jl_18, jl_19, jl_20, jl_21, jl_22, jl_23, jl_24, jl_25, jl_26, jl_27, jl_28, jl_29, jl_30, jl_31, jl_32, jl_33, jl_34, jl_35, jl_36, jl_37, jl_38, jl_39, jl_40, jl_95, jl_96, jl_97, jl_98, jl_99, jl_100, jl_101, jl_102, jl_103, jl_104, jl_105, jl_106, jl_107, jl_108, jl_109, jl_110, jl_111, jl_112, jl_113, jl_114, jl_186, jl_1100, jr, ju, jpT, jpF, tnc, Nat.reduceEqDiff, reduceIte, and_false, false_and, not_true_eq_false, not_false_eq_true, or_false, gt_iff_lt, ge_iff_le, Int.lt_irrefl, Int.le_refl, yk, yk', y0', ek, m4_w, hw, z30, z31_w, e5_w]
              exact bad_w _ _ q (FWk.up (by omega)) up_eq _
            · have z30 : ¬ (30 : Int) ≤ (L.length : Int) := by omega
              have z31_w : (L.length : Int) < 30 := by omega
              have q := ux 3 wv (by decide) (by omega)
              simp only [qe_1, qe_3, qe_4, qe_5, qe_7, qe_72, qe_10, qe_102, qe_13, qe_14, qe_15, qe_16, qe_17, qe_18, qe_20, qe_22, qe_23, qe_21, qe_24, qe_25, qe_26, qe_27, qe_28, qe_30, qe_31, qe_32, qc_20, qc_22, qc_23, qc_21, qc_24, qc_25, qc_26, qc_27, qc_1, qc_3, qc_4, qc_7, qc_13, qc_28, qc_32, qs_1, qs_2, qs_3, qs_4, qs_5, qs_6, qs_9, qs_10, qs_11, qs_14, qs_15, qs_16, qs_27, qs_17, qs_18, qs_19, qs_20, qs_22, qs_23, qs_28, qs_25, qs_26, qs_7, qs_8, kc_1, kn_1, kc_2, kn_2, kc_3, kn_3, kc_4, kn_4, kc_5, kn_5, kc_6, kn_6, kc_7, kn_7, kc_8, kn_8, kc_9, kn_9, kc_10, kn_10, kc_11, kn_11, kc_12, kn_12, kc_13, kn_13, kc_14, kn_14, kc_15, kn_15, kc_16, kc_17, kc_18, kc_19, kc_20, kc_21, kc_22, kc_23, kc_30, kc_32, kc_40, kc_43, kc_45, kc_48, kc_52, kc_56, kc_57, kc_59, kc_60, kc_61, kc_63, kc_64, kc_72, kc_78, kc_97, kc_99, kc_122, kc_126, kc_128, kc_192, kc_200, kc_255, kc_999, kc_1000, kc_9999, kn_9999, kc_10000, kc_12345, kc_65536, kc_252645135, kc_858993459, kc_1103515245, kc_1431655765, kc_2147483647, kc_0, kc_24, kc_28, kc_37, kc_41, kc_42, kc_73, kc_91, kc_95, kc_96, kc_98, kc_100, kc_112, kc_125, kc_150, kc_162, kc_163, kc_168, kc_186, kc_190, kc_250, kc_355, kc_356, kc_404, kc_405, kc_429, kc_573, kc_1002, kc_1100, kc_1891, kc_2200, kc_4719, kc_4869, kc_4881, kc_5148, kc_19741, kc_25433, kc_320403, kc_628412, kc_629093, kc_660401, kc_679843, kc_918640, kc_979410, kc_1178088, kc_6232410, kc_24644941, kc_36238189, kc_38270444, kc_392531318, kc_425693491, kc_1342154595, kc_2147483648, kc_42328242873, kc_891704255789, kc_1722105685577, kc_1858726030364, ct_0, ct_1, ct_2, ct_3, ct_4, ct_5, cf_0, cf_1, cf_2, cf_3, cf_4, cf_5, w_ty6, w_ty7, m_sv, m_z0, m_hd, m_g0, m_gs, m_s0, m_ss, m_ap, m_an, forall_const, true_and, and_true, ne_eq, not_true_eq_false, not_false_eq_true, false_implies, true_implies, implies_true, eq_self, reduceCtorEq, Nat.reduceDiv, Nat.reduceMod, Int.reduceToNat, or_true, true_or, or_false, false_or, or_self, m_it, m_if, m_c1, m_01, m_02, m_03, m_04, m_10, m_12, m_13, m_14, m_20, m_21, m_23, m_24, m_30, m_31, m_32, m_34, m_40, m_41, m_42, m_43, Int.reduceLE, Int.reduceLT, Int.reduceGE, Int.reduceGT, Int.reduceNeg, Int.reduceAdd, Int.reduceSub, Int.reduceMul, Int.reduceEq, Int.reduceNe, Nat.reduceAdd, jun2, ro_0_0, ro_0_1, ro_0_2, ro_0_3, ro_0_4, ro_0_5, ro_0_6, ro_0_7, ro_0_8, ro_0_9, ro_0_10, ro_0_11, ro_0_12, ro_1_0, ro_1_1, ro_2_0, ro_4_0, ro_6_0, ro_6_1, ro_6_2, ro_6_3, ro_6_4, ro_6_5, ro_6_6, ro_6_7, ro_6_8, ro_8_0, ro_10_0, ro_12_0, ro_14_0, ro_16_0, ro_18_0, ro_20_0, ro_22_0, ro_22_1, ro_22_2, ro_23_0, ro_25_0, ro_27_0, ro_29_0, ro_29_1, ro_29_2, ro_29_3, ro_29_4, ro_29_5, ro_29_6, ro_29_7, ro_29_8, ro_31_0, ro_33_0, ro_35_0, ro_37_0, ro_39_0, ro_41_0, ro_43_0, ro_45_0, ro_45_1, ro_45_2, ro_46_0, ro_48_0, ro_50_0, ro_52_0, ro_52_1, ro_52_2, ro_52_3, ro_53_0, ro_55_0, ro_57_0, ro_59_0, ro_61_0, ro_61_1, ro_61_2, ro_61_3, ro_62_0, ro_64_0, ro_66_0, ro_68_0, ro_70_0, ro_70_1, ro_70_2, ro_70_3, ro_70_4, ro_70_5, ro_70_6, ro_70_7, ro_70_8, ro_70_9, ro_71_0, ro_73_0, ro_75_0, ro_77_0, ro_79_0, ro_81_0, ro_83_0, ro_85_0, ro_87_0, ro_89_0, ro_91_0, ro_91_1, ro_91_2, ro_91_3, ro_91_4, ro_91_5, ro_91_6, ro_91_7, ro_91_8, ro_91_9, ro_92_0, ro_94_0, ro_96_0, ro_98_0, ro_100_0, ro_102_0, ro_104_0, ro_106_0, ro_108_0, ro_110_0, ro_112_0, ro_112_1, ro_112_2, ro_112_3, ro_112_4, ro_112_5, ro_112_6, ro_112_7, ro_112_8, ro_112_9, ro_113_0, ro_115_0, ro_117_0, ro_119_0, ro_121_0, ro_123_0, ro_125_0, ro_127_0, ro_129_0, ro_131_0, ro_133_0, ro_133_1, ro_133_2, ro_133_3, ro_133_4, ro_133_5, ro_133_6, ro_133_7, ro_133_8, ro_133_9, ro_134_0, ro_136_0, ro_138_0, ro_140_0, ro_142_0, ro_144_0, ro_146_0, ro_148_0, ro_150_0, ro_152_0, ro_154_0, ro_155_0, ro_157_0, ro_157_1, ro_157_2, ro_157_3, ro_157_4, ro_157_5, ro_157_6, ro_157_7, ro_157_8, ro_157_9, ro_158_0, ro_160_0, ro_162_0, ro_164_0, ro_166_0, ro_168_0, ro_170_0, ro_172_0, ro_174_0, ro_176_0, ro_178_0, ro_180_0, ro_182_1, ro_182_4, ro_182_5, ro_182_6, ro_182_9, ro_182_10, ro_182_11, ro_182_13, ro_182_14, ro_182_15, ro_182_16, ro_182_17, ro_182_20, ro_182_21, ro_182_22, ro_182_23, ro_182_24, ro_182_26, ro_182_27, ro_182_28, lo_3, lo_5, lo_7, lo_9, lo_11, lo_13, lo_15, lo_17, lo_19, lo_21, lo_24, lo_26, lo_28, lo_30, lo_32, lo_34, lo_36, lo_38, lo_40, lo_42, lo_44, lo_47, lo_49, lo_51, lo_54, lo_56, lo_58, lo_60, lo_63, lo_65, lo_67, lo_69, lo_72, lo_74, lo_76, lo_78, lo_80, lo_82, lo_84, lo_86, lo_88, lo_90, lo_93, lo_95, lo_97, lo_99, lo_101, lo_103, lo_105, lo_107, lo_109, lo_111, lo_114, lo_116, lo_118, lo_120, lo_122, lo_124, lo_126, lo_128, lo_130, lo_132, lo_135, lo_137, lo_139, lo_141, lo_143, lo_145, lo_147, lo_149, lo_151, lo_153, lo_156, lo_159, lo_161, lo_163, lo_165, lo_167, lo_169, lo_171, lo_173, lo_175, lo_177, lo_179, lo_181, lo_183, lo_184, lo_185, lo_186, lo_187, lo_188, lo_189, lo_190, lo_191, lo_192, lo_193, lo_194, lo_195, lo_196, lo_197, lo_198, lo_199, lo_200, lo_201, lo_202, lo_203, jp_nn, jp_eq, jp_e1, Classical.not_not, ji0, ji1, ji2, cs26_72, kk_72, cs26_63, kk_63, cs26_77, kk_77, cs26_133, kk_133, cs26_121, kk_121, cs26_129, kk_129, cs26_130, kk_130, cs26_131, kk_131, cs26_132, kk_132, jl_0, jl_1, jl_2, jl_3, jl_4, jl_5, jl_6, jl_7, jl_8, jl_9, jl_10, jl_11, jl_12, jl_13, jl_14, jl_15, jl_16, jl_17, jl_18, jl_19, jl_20, jl_21, jl_22, jl_23, jl_24, jl_25, jl_26, jl_27, jl_28, jl_29, jl_30, jl_31, jl_32, jl_33, jl_34, jl_35, jl_36, jl_37, jl_38, jl_39, jl_40, jl_95, jl_96, jl_97, jl_98, jl_99, jl_100, jl_101, jl_102, jl_103, jl_104, jl_105, jl_106, jl_107, jl_108, jl_109, jl_110, jl_111, jl_112, jl_113, jl_114, jl_186, jl_1100, jr, ju, jpT, jpF, tnc, Nat.reduceEqDiff, reduceIte, and_false, false_and, not_true_eq_false, not_false_eq_true, or_false, gt_iff_lt, ge_iff_le, Int.lt_irrefl, Int.le_refl, yk, yk', y0', ek, m4_w, hw, z30, z31_w]
              exact ⟨T, i, D, L, t4_w, lt, cd4, ln4, by omega, fun f h5 e f5_w e6_w _ => bad_w f h5 (q.symm.trans e) f5_w e6_w _, fun x j h5 e f5_w e6_w ln5 t5_w _ => good_w x j h5 (q.symm.trans e) f5_w e6_w ln5 t5_w _⟩
        · have wv : wHere (tS T) (tV T) wl 9 4 i = -1 := w4_w.trans (by rw [if_neg (fun z => yw (Or.inl z)), if_neg (fun z => yw (Or.inr (Or.inl z))), if_neg (fun z => yw (Or.inr (Or.inr (Or.inl z)))), if_neg (fun z => yw (Or.inr (Or.inr (Or.inr z))))])
          have q : sWy T D L.length i = .error (er (tP T) 1 i) := by
            unfold sWy sWx
            rw [wv, if_pos (by decide)]
            rfl
          simp only [qe_1, qe_3, qe_4, qe_5, qe_7, qe_72, qe_10, qe_102, qe_13, qe_14, qe_15, qe_16, qe_17, qe_18, qe_20, qe_22, qe_23, qe_21, qe_24, qe_25, qe_26, qe_27, qe_28, qe_30, qe_31, qe_32, qc_20, qc_22, qc_23, qc_21, qc_24, qc_25, qc_26, qc_27, qc_1, qc_3, qc_4, qc_7, qc_13, qc_28, qc_32, qs_1, qs_2, qs_3, qs_4, qs_5, qs_6, qs_9, qs_10, qs_11, qs_14, qs_15, qs_16, qs_27, qs_17, qs_18, qs_19, qs_20, qs_22, qs_23, qs_28, qs_25, qs_26, qs_7, qs_8, kc_1, kn_1, kc_2, kn_2, kc_3, kn_3, kc_4, kn_4, kc_5, kn_5, kc_6, kn_6, kc_7, kn_7, kc_8, kn_8, kc_9, kn_9, kc_10, kn_10, kc_11, kn_11, kc_12, kn_12, kc_13, kn_13, kc_14, kn_14, kc_15, kn_15, kc_16, kc_17, kc_18, kc_19, kc_20, kc_21, kc_22, kc_23, kc_30, kc_32, kc_40, kc_43, kc_45, kc_48, kc_52, kc_56, kc_57, kc_59, kc_60, kc_61, kc_63, kc_64, kc_72, kc_78, kc_97, kc_99, kc_122, kc_126, kc_128, kc_192, kc_200, kc_255, kc_999, kc_1000, kc_9999, kn_9999, kc_10000, kc_12345, kc_65536, kc_252645135, kc_858993459, kc_1103515245, kc_1431655765, kc_2147483647, kc_0, kc_24, kc_28, kc_37, kc_41, kc_42, kc_73, kc_91, kc_95, kc_96, kc_98, kc_100, kc_112, kc_125, kc_150, kc_162, kc_163, kc_168, kc_186, kc_190, kc_250, kc_355, kc_356, kc_404, kc_405, kc_429, kc_573, kc_1002, kc_1100, kc_1891, kc_2200, kc_4719, kc_4869, kc_4881, kc_5148, kc_19741, kc_25433, kc_320403, kc_628412, kc_629093, kc_660401, kc_679843, kc_918640, kc_979410, kc_1178088, kc_6232410, kc_24644941, kc_36238189, kc_38270444, kc_392531318, kc_425693491, kc_1342154595, kc_2147483648, kc_42328242873, kc_891704255789, kc_1722105685577, kc_1858726030364, ct_0, ct_1, ct_2, ct_3, ct_4, ct_5, cf_0, cf_1, cf_2, cf_3, cf_4, cf_5, w_ty6, w_ty7, m_sv, m_z0, m_hd, m_g0, m_gs, m_s0, m_ss, m_ap, m_an, forall_const, true_and, and_true, ne_eq, not_true_eq_false, not_false_eq_true, false_implies, true_implies, implies_true, eq_self, reduceCtorEq, Nat.reduceDiv, Nat.reduceMod, Int.reduceToNat, or_true, true_or, or_false, false_or, or_self, m_it, m_if, m_c1, m_01, m_02, m_03, m_04, m_10, m_12, m_13, m_14, m_20, m_21, m_23, m_24, m_30, m_31, m_32, m_34, m_40, m_41, m_42, m_43, Int.reduceLE, Int.reduceLT, Int.reduceGE, Int.reduceGT, Int.reduceNeg, Int.reduceAdd, Int.reduceSub, Int.reduceMul, Int.reduceEq, Int.reduceNe, Nat.reduceAdd, jun2, ro_0_0, ro_0_1, ro_0_2, ro_0_3, ro_0_4, ro_0_5, ro_0_6, ro_0_7, ro_0_8, ro_0_9, ro_0_10, ro_0_11, ro_0_12, ro_1_0, ro_1_1, ro_2_0, ro_4_0, ro_6_0, ro_6_1, ro_6_2, ro_6_3, ro_6_4, ro_6_5, ro_6_6, ro_6_7, ro_6_8, ro_8_0, ro_10_0, ro_12_0, ro_14_0, ro_16_0, ro_18_0, ro_20_0, ro_22_0, ro_22_1, ro_22_2, ro_23_0, ro_25_0, ro_27_0, ro_29_0, ro_29_1, ro_29_2, ro_29_3, ro_29_4, ro_29_5, ro_29_6, ro_29_7, ro_29_8, ro_31_0, ro_33_0, ro_35_0, ro_37_0, ro_39_0, ro_41_0, ro_43_0, ro_45_0, ro_45_1, ro_45_2, ro_46_0, ro_48_0, ro_50_0, ro_52_0, ro_52_1, ro_52_2, ro_52_3, ro_53_0, ro_55_0, ro_57_0, ro_59_0, ro_61_0, ro_61_1, ro_61_2, ro_61_3, ro_62_0, ro_64_0, ro_66_0, ro_68_0, ro_70_0, ro_70_1, ro_70_2, ro_70_3, ro_70_4, ro_70_5, ro_70_6, ro_70_7, ro_70_8, ro_70_9, ro_71_0, ro_73_0, ro_75_0, ro_77_0, ro_79_0, ro_81_0, ro_83_0, ro_85_0, ro_87_0, ro_89_0, ro_91_0, ro_91_1, ro_91_2, ro_91_3, ro_91_4, ro_91_5, ro_91_6, ro_91_7, ro_91_8, ro_91_9, ro_92_0, ro_94_0, ro_96_0, ro_98_0, ro_100_0, ro_102_0, ro_104_0, ro_106_0, ro_108_0, ro_110_0, ro_112_0, ro_112_1, ro_112_2, ro_112_3, ro_112_4, ro_112_5, ro_112_6, ro_112_7, ro_112_8, ro_112_9, ro_113_0, ro_115_0, ro_117_0, ro_119_0, ro_121_0, ro_123_0, ro_125_0, ro_127_0, ro_129_0, ro_131_0, ro_133_0, ro_133_1, ro_133_2, ro_133_3, ro_133_4, ro_133_5, ro_133_6, ro_133_7, ro_133_8, ro_133_9, ro_134_0, ro_136_0, ro_138_0, ro_140_0, ro_142_0, ro_144_0, ro_146_0, ro_148_0, ro_150_0, ro_152_0, ro_154_0, ro_155_0, ro_157_0, ro_157_1, ro_157_2, ro_157_3, ro_157_4, ro_157_5, ro_157_6, ro_157_7, ro_157_8, ro_157_9, ro_158_0, ro_160_0, ro_162_0, ro_164_0, ro_166_0, ro_168_0, ro_170_0, ro_172_0, ro_174_0, ro_176_0, ro_178_0, ro_180_0, ro_182_1, ro_182_4, ro_182_5, ro_182_6, ro_182_9, ro_182_10, ro_182_11, ro_182_13, ro_182_14, ro_182_15, ro_182_16, ro_182_17, ro_182_20, ro_182_21, ro_182_22, ro_182_23, ro_182_24, ro_182_26, ro_182_27, ro_182_28, lo_3, lo_5, lo_7, lo_9, lo_11, lo_13, lo_15, lo_17, lo_19, lo_21, lo_24, lo_26, lo_28, lo_30, lo_32, lo_34, lo_36, lo_38, lo_40, lo_42, lo_44, lo_47, lo_49, lo_51, lo_54, lo_56, lo_58, lo_60, lo_63, lo_65, lo_67, lo_69, lo_72, lo_74, lo_76, lo_78, lo_80, lo_82, lo_84, lo_86, lo_88, lo_90, lo_93, lo_95, lo_97, lo_99, lo_101, lo_103, lo_105, lo_107, lo_109, lo_111, lo_114, lo_116, lo_118, lo_120, lo_122, lo_124, lo_126, lo_128, lo_130, lo_132, lo_135, lo_137, lo_139, lo_141, lo_143, lo_145, lo_147, lo_149, lo_151, lo_153, lo_156, lo_159, lo_161, lo_163, lo_165, lo_167, lo_169, lo_171, lo_173, lo_175, lo_177, lo_179, lo_181, lo_183, lo_184, lo_185, lo_186, lo_187, lo_188, lo_189, lo_190, lo_191, lo_192, lo_193, lo_194, lo_195, lo_196, lo_197, lo_198, lo_199, lo_200, lo_201, lo_202, lo_203, jp_nn, jp_eq, jp_e1, Classical.not_not, ji0, ji1, ji2, cs26_72, kk_72, cs26_63, kk_63, cs26_77, kk_77, cs26_133, kk_133, cs26_121, kk_121, cs26_129, kk_129, cs26_130, kk_130, cs26_131, kk_131, cs26_132, kk_132, jl_0, jl_1, jl_2, jl_3, jl_4, jl_5, jl_6, jl_7, jl_8, jl_9, jl_10, jl_11, jl_12, jl_13, jl_14, jl_15, jl_16, jl_17, jl_18, jl_19, jl_20, jl_21, jl_22, jl_23, jl_24, jl_25, jl_26, jl_27, jl_28, jl_29, jl_30, jl_31, jl_32, jl_33, jl_34, jl_35, jl_36, jl_37, jl_38, jl_39, jl_40, jl_95, jl_96, jl_97, jl_98, jl_99, jl_100, jl_101, jl_102, jl_103, jl_104, jl_105, jl_106, jl_107, jl_108, jl_109, jl_110, jl_111, jl_112, jl_113, jl_114, jl_186, jl_1100, jr, ju, jpT, jpF, tnc, Nat.reduceEqDiff, reduceIte, and_false, false_and, not_true_eq_false, not_false_eq_true, or_false, gt_iff_lt, ge_iff_le, Int.lt_irrefl, Int.le_refl, yk, yk', y0', ek, m4_w, yw, ef]
          exact bad_w _ _ q (FWk.up (by omega)) up_eq _
    · have fin_w := q1_w _ h4 ev_w fl4
      by_cases yk : k < 1000
      · have yk' : ¬ (1000 : Int) ≤ k := by omega
        simp only [qe_1, qe_3, qe_4, qe_5, qe_7, qe_72, qe_10, qe_102, qe_13, qe_14, qe_15, qe_16, qe_17, qe_18, qe_20, qe_22, qe_23, qe_21, qe_24, qe_25, qe_26, qe_27, qe_28, qe_30, qe_31, qe_32, qc_20, qc_22, qc_23, qc_21, qc_24, qc_25, qc_26, qc_27, qc_1, qc_3, qc_4, qc_7, qc_13, qc_28, qc_32, qs_1, qs_2, qs_3, qs_4, qs_5, qs_6, qs_9, qs_10, qs_11, qs_14, qs_15, qs_16, qs_27, qs_17, qs_18, qs_19, qs_20, qs_22, qs_23, qs_28, qs_25, qs_26, qs_7, qs_8, kc_1, kn_1, kc_2, kn_2, kc_3, kn_3, kc_4, kn_4, kc_5, kn_5, kc_6, kn_6, kc_7, kn_7, kc_8, kn_8, kc_9, kn_9, kc_10, kn_10, kc_11, kn_11, kc_12, kn_12, kc_13, kn_13, kc_14, kn_14, kc_15, kn_15, kc_16, kc_17, kc_18, kc_19, kc_20, kc_21, kc_22, kc_23, kc_30, kc_32, kc_40, kc_43, kc_45, kc_48, kc_52, kc_56, kc_57, kc_59, kc_60, kc_61, kc_63, kc_64, kc_72, kc_78, kc_97, kc_99, kc_122, kc_126, kc_128, kc_192, kc_200, kc_255, kc_999, kc_1000, kc_9999, kn_9999, kc_10000, kc_12345, kc_65536, kc_252645135, kc_858993459, kc_1103515245, kc_1431655765, kc_2147483647, kc_0, kc_24, kc_28, kc_37, kc_41, kc_42, kc_73, kc_91, kc_95, kc_96, kc_98, kc_100, kc_112, kc_125, kc_150, kc_162, kc_163, kc_168, kc_186, kc_190, kc_250, kc_355, kc_356, kc_404, kc_405, kc_429, kc_573, kc_1002, kc_1100, kc_1891, kc_2200, kc_4719, kc_4869, kc_4881, kc_5148, kc_19741, kc_25433, kc_320403, kc_628412, kc_629093, kc_660401, kc_679843, kc_918640, kc_979410, kc_1178088, kc_6232410, kc_24644941, kc_36238189, kc_38270444, kc_392531318, kc_425693491, kc_1342154595, kc_2147483648, kc_42328242873, kc_891704255789, kc_1722105685577, kc_1858726030364, ct_0, ct_1, ct_2, ct_3, ct_4, ct_5, cf_0, cf_1, cf_2, cf_3, cf_4, cf_5, w_ty6, w_ty7, m_sv, m_z0, m_hd, m_g0, m_gs, m_s0, m_ss, m_ap, m_an, forall_const, true_and, and_true, ne_eq, not_true_eq_false, not_false_eq_true, false_implies, true_implies, implies_true, eq_self, reduceCtorEq, Nat.reduceDiv, Nat.reduceMod, Int.reduceToNat, or_true, true_or, or_false, false_or, or_self, m_it, m_if, m_c1, m_01, m_02, m_03, m_04, m_10, m_12, m_13, m_14, m_20, m_21, m_23, m_24, m_30, m_31, m_32, m_34, m_40, m_41, m_42, m_43, Int.reduceLE, Int.reduceLT, Int.reduceGE, Int.reduceGT, Int.reduceNeg, Int.reduceAdd, Int.reduceSub, Int.reduceMul, Int.reduceEq, Int.reduceNe, Nat.reduceAdd, jun2, ro_0_0, ro_0_1, ro_0_2, ro_0_3, ro_0_4, ro_0_5, ro_0_6, ro_0_7, ro_0_8, ro_0_9, ro_0_10, ro_0_11, ro_0_12, ro_1_0, ro_1_1, ro_2_0, ro_4_0, ro_6_0, ro_6_1, ro_6_2, ro_6_3, ro_6_4, ro_6_5, ro_6_6, ro_6_7, ro_6_8, ro_8_0, ro_10_0, ro_12_0, ro_14_0, ro_16_0, ro_18_0, ro_20_0, ro_22_0, ro_22_1, ro_22_2, ro_23_0, ro_25_0, ro_27_0, ro_29_0, ro_29_1, ro_29_2, ro_29_3, ro_29_4, ro_29_5, ro_29_6, ro_29_7, ro_29_8, ro_31_0, ro_33_0, ro_35_0, ro_37_0, ro_39_0, ro_41_0, ro_43_0, ro_45_0, ro_45_1, ro_45_2, ro_46_0, ro_48_0, ro_50_0, ro_52_0, ro_52_1, ro_52_2, ro_52_3, ro_53_0, ro_55_0, ro_57_0, ro_59_0, ro_61_0, ro_61_1, ro_61_2, ro_61_3, ro_62_0, ro_64_0, ro_66_0, ro_68_0, ro_70_0, ro_70_1, ro_70_2, ro_70_3, ro_70_4, ro_70_5, ro_70_6, ro_70_7, ro_70_8, ro_70_9, ro_71_0, ro_73_0, ro_75_0, ro_77_0, ro_79_0, ro_81_0, ro_83_0, ro_85_0, ro_87_0, ro_89_0, ro_91_0, ro_91_1, ro_91_2, ro_91_3, ro_91_4, ro_91_5, ro_91_6, ro_91_7, ro_91_8, ro_91_9, ro_92_0, ro_94_0, ro_96_0, ro_98_0, ro_100_0, ro_102_0, ro_104_0, ro_106_0, ro_108_0, ro_110_0, ro_112_0, ro_112_1, ro_112_2, ro_112_3, ro_112_4, ro_112_5, ro_112_6, ro_112_7, ro_112_8, ro_112_9, ro_113_0, ro_115_0, ro_117_0, ro_119_0, ro_121_0, ro_123_0, ro_125_0, ro_127_0, ro_129_0, ro_131_0, ro_133_0, ro_133_1, ro_133_2, ro_133_3, ro_133_4, ro_133_5, ro_133_6, ro_133_7, ro_133_8, ro_133_9, ro_134_0, ro_136_0, ro_138_0, ro_140_0, ro_142_0, ro_144_0, ro_146_0, ro_148_0, ro_150_0, ro_152_0, ro_154_0, ro_155_0, ro_157_0, ro_157_1, ro_157_2, ro_157_3, ro_157_4, ro_157_5, ro_157_6, ro_157_7, ro_157_8, ro_157_9, ro_158_0, ro_160_0, ro_162_0, ro_164_0, ro_166_0, ro_168_0, ro_170_0, ro_172_0, ro_174_0, ro_176_0, ro_178_0, ro_180_0, ro_182_1, ro_182_4, ro_182_5, ro_182_6, ro_182_9, ro_182_10, ro_182_11, ro_182_13, ro_182_14, ro_182_15, ro_182_16, ro_182_17, ro_182_20, ro_182_21, ro_182_22, ro_182_23, ro_182_24, ro_182_26, ro_182_27, ro_182_28, lo_3, lo_5, lo_7, lo_9, lo_11, lo_13, lo_15, lo_17, lo_19, lo_21, lo_24, lo_26, lo_28, lo_30, lo_32, lo_34, lo_36, lo_38, lo_40, lo_42, lo_44, lo_47, lo_49, lo_51, lo_54, lo_56, lo_58, lo_60, lo_63, lo_65, lo_67, lo_69, lo_72, lo_74, lo_76, lo_78, lo_80, lo_82, lo_84, lo_86, lo_88, lo_90, lo_93, lo_95, lo_97, lo_99, lo_101, lo_103, lo_105, lo_107, lo_109, lo_111, lo_114, lo_116, lo_118, lo_120, lo_122, lo_124, lo_126, lo_128, lo_130, lo_132, lo_135, lo_137, lo_139, lo_141, lo_143, lo_145, lo_147, lo_149, lo_151, lo_153, lo_156, lo_159, lo_161, lo_163, lo_165, lo_167, lo_169, lo_171, lo_173, lo_175, lo_177, lo_179, lo_181, lo_183, lo_184, lo_185, lo_186, lo_187, lo_188, lo_189, lo_190, lo_191, lo_192, lo_193, lo_194, lo_195, lo_196, lo_197, lo_198, lo_199, lo_200, lo_201, lo_202, lo_203, jp_nn, jp_eq, jp_e1, Classical.not_not, ji0, ji1, ji2, cs26_72, kk_72, cs26_63, kk_63, cs26_77, kk_77, cs26_133, kk_133, cs26_121, kk_121, cs26_129, kk_129, cs26_130, kk_130, cs26_131, kk_131, cs26_132, kk_132, jl_0, jl_1, jl_2, jl_3, jl_4, jl_5, jl_6, jl_7, jl_8, jl_9, jl_10, jl_11, jl_12, jl_13, jl_14, jl_15, jl_16, jl_17, jl_18, jl_19, jl_20, jl_21, jl_22, jl_23, jl_24, jl_25, jl_26, jl_27, jl_28, jl_29, jl_30, jl_31, jl_32, jl_33, jl_34, jl_35, jl_36, jl_37, jl_38, jl_39, jl_40, jl_95, jl_96, jl_97, jl_98, jl_99, jl_100, jl_101, jl_102, jl_103, jl_104, jl_105, jl_106, jl_107, jl_108, jl_109, jl_110, jl_111, jl_112, jl_113, jl_114, jl_186, jl_1100, jr, ju, jpT, jpF, tnc, Nat.reduceEqDiff, reduceIte, and_false, false_and, not_true_eq_false, not_false_eq_true, or_false, gt_iff_lt, ge_iff_le, Int.lt_irrefl, Int.le_refl, yk, yk']
        exact fin_w
      · have yk' : (1000 : Int) ≤ k := by omega
        simp only [qe_1, qe_3, qe_4, qe_5, qe_7, qe_72, qe_10, qe_102, qe_13, qe_14, qe_15, qe_16, qe_17, qe_18, qe_20, qe_22, qe_23, qe_21, qe_24, qe_25, qe_26, qe_27, qe_28, qe_30, qe_31, qe_32, qc_20, qc_22, qc_23, qc_21, qc_24, qc_25, qc_26, qc_27, qc_1, qc_3, qc_4, qc_7, qc_13, qc_28, qc_32, qs_1, qs_2, qs_3, qs_4, qs_5, qs_6, qs_9, qs_10, qs_11, qs_14, qs_15, qs_16, qs_27, qs_17, qs_18, qs_19, qs_20, qs_22, qs_23, qs_28, qs_25, qs_26, qs_7, qs_8, kc_1, kn_1, kc_2, kn_2, kc_3, kn_3, kc_4, kn_4, kc_5, kn_5, kc_6, kn_6, kc_7, kn_7, kc_8, kn_8, kc_9, kn_9, kc_10, kn_10, kc_11, kn_11, kc_12, kn_12, kc_13, kn_13, kc_14, kn_14, kc_15, kn_15, kc_16, kc_17, kc_18, kc_19, kc_20, kc_21, kc_22, kc_23, kc_30, kc_32, kc_40, kc_43, kc_45, kc_48, kc_52, kc_56, kc_57, kc_59, kc_60, kc_61, kc_63, kc_64, kc_72, kc_78, kc_97, kc_99, kc_122, kc_126, kc_128, kc_192, kc_200, kc_255, kc_999, kc_1000, kc_9999, kn_9999, kc_10000, kc_12345, kc_65536, kc_252645135, kc_858993459, kc_1103515245, kc_1431655765, kc_2147483647, kc_0, kc_24, kc_28, kc_37, kc_41, kc_42, kc_73, kc_91, kc_95, kc_96, kc_98, kc_100, kc_112, kc_125, kc_150, kc_162, kc_163, kc_168, kc_186, kc_190, kc_250, kc_355, kc_356, kc_404, kc_405, kc_429, kc_573, kc_1002, kc_1100, kc_1891, kc_2200, kc_4719, kc_4869, kc_4881, kc_5148, kc_19741, kc_25433, kc_320403, kc_628412, kc_629093, kc_660401, kc_679843, kc_918640, kc_979410, kc_1178088, kc_6232410, kc_24644941, kc_36238189, kc_38270444, kc_392531318, kc_425693491, kc_1342154595, kc_2147483648, kc_42328242873, kc_891704255789, kc_1722105685577, kc_1858726030364, ct_0, ct_1, ct_2, ct_3, ct_4, ct_5, cf_0, cf_1, cf_2, cf_3, cf_4, cf_5, w_ty6, w_ty7, m_sv, m_z0, m_hd, m_g0, m_gs, m_s0, m_ss, m_ap, m_an, forall_const, true_and, and_true, ne_eq, not_true_eq_false, not_false_eq_true, false_implies, true_implies, implies_true, eq_self, reduceCtorEq, Nat.reduceDiv, Nat.reduceMod, Int.reduceToNat, or_true, true_or, or_false, false_or, or_self, m_it, m_if, m_c1, m_01, m_02, m_03, m_04, m_10, m_12, m_13, m_14, m_20, m_21, m_23, m_24, m_30, m_31, m_32, m_34, m_40, m_41, m_42, m_43, Int.reduceLE, Int.reduceLT, Int.reduceGE, Int.reduceGT, Int.reduceNeg, Int.reduceAdd, Int.reduceSub, Int.reduceMul, Int.reduceEq, Int.reduceNe, Nat.reduceAdd, jun2, ro_0_0, ro_0_1, ro_0_2, ro_0_3, ro_0_4, ro_0_5, ro_0_6, ro_0_7, ro_0_8, ro_0_9, ro_0_10, ro_0_11, ro_0_12, ro_1_0, ro_1_1, ro_2_0, ro_4_0, ro_6_0, ro_6_1, ro_6_2, ro_6_3, ro_6_4, ro_6_5, ro_6_6, ro_6_7, ro_6_8, ro_8_0, ro_10_0, ro_12_0, ro_14_0, ro_16_0, ro_18_0, ro_20_0, ro_22_0, ro_22_1, ro_22_2, ro_23_0, ro_25_0, ro_27_0, ro_29_0, ro_29_1, ro_29_2, ro_29_3, ro_29_4, ro_29_5, ro_29_6, ro_29_7, ro_29_8, ro_31_0, ro_33_0, ro_35_0, ro_37_0, ro_39_0, ro_41_0, ro_43_0, ro_45_0, ro_45_1, ro_45_2, ro_46_0, ro_48_0, ro_50_0, ro_52_0, ro_52_1, ro_52_2, ro_52_3, ro_53_0, ro_55_0, ro_57_0, ro_59_0, ro_61_0, ro_61_1, ro_61_2, ro_61_3, ro_62_0, ro_64_0, ro_66_0, ro_68_0, ro_70_0, ro_70_1, ro_70_2, ro_70_3, ro_70_4, ro_70_5, ro_70_6, ro_70_7, ro_70_8, ro_70_9, ro_71_0, ro_73_0, ro_75_0, ro_77_0, ro_79_0, ro_81_0, ro_83_0, ro_85_0, ro_87_0, ro_89_0, ro_91_0, ro_91_1, ro_91_2, ro_91_3, ro_91_4, ro_91_5, ro_91_6, ro_91_7, ro_91_8, ro_91_9, ro_92_0, ro_94_0, ro_96_0, ro_98_0, ro_100_0, ro_102_0, ro_104_0, ro_106_0, ro_108_0, ro_110_0, ro_112_0, ro_112_1, ro_112_2, ro_112_3, ro_112_4, ro_112_5, ro_112_6, ro_112_7, ro_112_8, ro_112_9, ro_113_0, ro_115_0, ro_117_0, ro_119_0, ro_121_0, ro_123_0, ro_125_0, ro_127_0, ro_129_0, ro_131_0, ro_133_0, ro_133_1, ro_133_2, ro_133_3, ro_133_4, ro_133_5, ro_133_6, ro_133_7, ro_133_8, ro_133_9, ro_134_0, ro_136_0, ro_138_0, ro_140_0, ro_142_0, ro_144_0, ro_146_0, ro_148_0, ro_150_0, ro_152_0, ro_154_0, ro_155_0, ro_157_0, ro_157_1, ro_157_2, ro_157_3, ro_157_4, ro_157_5, ro_157_6, ro_157_7, ro_157_8, ro_157_9, ro_158_0, ro_160_0, ro_162_0, ro_164_0, ro_166_0, ro_168_0, ro_170_0, ro_172_0, ro_174_0, ro_176_0, ro_178_0, ro_180_0, ro_182_1, ro_182_4, ro_182_5, ro_182_6, ro_182_9, ro_182_10, ro_182_11, ro_182_13, ro_182_14, ro_182_15, ro_182_16, ro_182_17, ro_182_20, ro_182_21, ro_182_22, ro_182_23, ro_182_24, ro_182_26, ro_182_27, ro_182_28, lo_3, lo_5, lo_7, lo_9, lo_11, lo_13, lo_15, lo_17, lo_19, lo_21, lo_24, lo_26, lo_28, lo_30, lo_32, lo_34, lo_36, lo_38, lo_40, lo_42, lo_44, lo_47, lo_49, lo_51, lo_54, lo_56, lo_58, lo_60, lo_63, lo_65, lo_67, lo_69, lo_72, lo_74, lo_76, lo_78, lo_80, lo_82, lo_84, lo_86, lo_88, lo_90, lo_93, lo_95, lo_97, lo_99, lo_101, lo_103, lo_105, lo_107, lo_109, lo_111, lo_114, lo_116, lo_118, lo_120, lo_122, lo_124, lo_126, lo_128, lo_130, lo_132, lo_135, lo_137, lo_139, lo_141, lo_143, lo_145, lo_147, lo_149, lo_151, lo_153, lo_156, lo_159, lo_161, lo_163, lo_165, lo_167, lo_169, lo_171, lo_173, lo_175, lo_177, lo_179, lo_181, lo_183, lo_184, lo_185, lo_186, lo_187, lo_188, lo_189, lo_190, lo_191, lo_192, lo_193, lo_194, lo_195, lo_196, lo_197, lo_198, lo_199, lo_200, lo_201, lo_202, lo_203, jp_nn, jp_eq, jp_e1, Classical.not_not, ji0, ji1, ji2, cs26_72, kk_72, cs26_63, kk_63, cs26_77, kk_77, cs26_133, kk_133, cs26_121, kk_121, cs26_129, kk_129, cs26_130, kk_130, cs26_131, kk_131, cs26_132, kk_132, jl_0, jl_1, jl_2, jl_3, jl_4, jl_5, jl_6, jl_7, jl_8, jl_9, jl_10, jl_11, jl_12, jl_13, jl_14, jl_15, jl_16, jl_17, jl_18, jl_19, jl_20, jl_21, jl_22, jl_23, jl_24, jl_25, jl_26, jl_27, jl_28, jl_29, jl_30, jl_31, jl_32, jl_33, jl_34, jl_35, jl_36, jl_37, jl_38, jl_39, jl_40, jl_95, jl_96, jl_97, jl_98, jl_99, jl_100, jl_101, jl_102, jl_103, jl_104, jl_105, jl_106, jl_107, jl_108, jl_109, jl_110, jl_111, jl_112, jl_113, jl_114, jl_186, jl_1100, jr, ju, jpT, jpF, tnc, Nat.reduceEqDiff, reduceIte, and_false, false_and, not_true_eq_false, not_false_eq_true, or_false, gt_iff_lt, ge_iff_le, Int.lt_irrefl, Int.le_refl, yk, yk']
        exact fin_w
  · exact hQ.elim
theorem m_4 : BodyOK CS26 CS26 4 := fun av h Q hQ => by
  rw [cs26_4] at hQ
  unfold k4 at hQ
  split at hQ
  · rename_i o
    obtain ⟨rfl, T, D, tN_w, byt, tok, cd, hE, q1_w, q2_w⟩ := hQ
    show pS CS26 bb_4 [0, 0] h _
    unfold bb_4
    simp only [qe_1, qe_3, qe_4, qe_5, qe_7, qe_72, qe_10, qe_102, qe_13, qe_14, qe_15, qe_16, qe_17, qe_18, qe_20, qe_22, qe_23, qe_21, qe_24, qe_25, qe_26, qe_27, qe_28, qe_30, qe_31, qe_32, qc_20, qc_22, qc_23, qc_21, qc_24, qc_25, qc_26, qc_27, qc_1, qc_3, qc_4, qc_7, qc_13, qc_28, qc_32, qs_1, qs_2, qs_3, qs_4, qs_5, qs_6, qs_9, qs_10, qs_11, qs_14, qs_15, qs_16, qs_27, qs_17, qs_18, qs_19, qs_20, qs_22, qs_23, qs_28, qs_25, qs_26, qs_7, qs_8, kc_1, kn_1, kc_2, kn_2, kc_3, kn_3, kc_4, kn_4, kc_5, kn_5, kc_6, kn_6, kc_7, kn_7, kc_8, kn_8, kc_9, kn_9, kc_10, kn_10, kc_11, kn_11, kc_12, kn_12, kc_13, kn_13, kc_14, kn_14, kc_15, kn_15, kc_16, kc_17, kc_18, kc_19, kc_20, kc_21, kc_22, kc_23, kc_30, kc_32, kc_40, kc_43, kc_45, kc_48, kc_52, kc_56, kc_57, kc_59, kc_60, kc_61, kc_63, kc_64, kc_72, kc_78, kc_97, kc_99, kc_122, kc_126, kc_128, kc_192, kc_200, kc_255, kc_999, kc_1000, kc_9999, kn_9999, kc_10000, kc_12345, kc_65536, kc_252645135, kc_858993459, kc_1103515245, kc_1431655765, kc_2147483647, kc_0, kc_24, kc_28, kc_37, kc_41, kc_42, kc_73, kc_91, kc_95, kc_96, kc_98, kc_100, kc_112, kc_125, kc_150, kc_162, kc_163, kc_168, kc_186, kc_190, kc_250, kc_355, kc_356, kc_404, kc_405, kc_429, kc_573, kc_1002, kc_1100, kc_1891, kc_2200, kc_4719, kc_4869, kc_4881, kc_5148, kc_19741, kc_25433, kc_320403, kc_628412, kc_629093, kc_660401, kc_679843, kc_918640, kc_979410, kc_1178088, kc_6232410, kc_24644941, kc_36238189, kc_38270444, kc_392531318, kc_425693491, kc_1342154595, kc_2147483648, kc_42328242873, kc_891704255789, kc_1722105685577, kc_1858726030364, ct_0, ct_1, ct_2, ct_3, ct_4, ct_5, cf_0, cf_1, cf_2, cf_3, cf_4, cf_5, w_ty6, w_ty7, m_sv, m_z0, m_hd, m_g0, m_gs, m_s0, m_ss, m_ap, m_an, forall_const, true_and, and_true, ne_eq, not_true_eq_false, not_false_eq_true, false_implies, true_implies, implies_true, eq_self, reduceCtorEq, Nat.reduceDiv, Nat.reduceMod, Int.reduceToNat, or_true, true_or, or_false, false_or, or_self, m_it, m_if, m_c1, m_01, m_02, m_03, m_04, m_10, m_12, m_13, m_14, m_20, m_21, m_23, m_24, m_30, m_31, m_32, m_34, m_40, m_41, m_42, m_43, Int.reduceLE, Int.reduceLT, Int.reduceGE, Int.reduceGT, Int.reduceNeg, Int.reduceAdd, Int.reduceSub, Int.reduceMul, Int.reduceEq, Int.reduceNe, Nat.reduceAdd, jun2, ro_0_0, ro_0_1, ro_0_2, ro_0_3, ro_0_4, ro_0_5, ro_0_6, ro_0_7, ro_0_8, ro_0_9, ro_0_10, ro_0_11, ro_0_12, ro_1_0, ro_1_1, ro_2_0, ro_4_0, ro_6_0, ro_6_1, ro_6_2, ro_6_3, ro_6_4, ro_6_5, ro_6_6, ro_6_7, ro_6_8, ro_8_0, ro_10_0, ro_12_0, ro_14_0, ro_16_0, ro_18_0, ro_20_0, ro_22_0, ro_22_1, ro_22_2, ro_23_0, ro_25_0, ro_27_0, ro_29_0, ro_29_1, ro_29_2, ro_29_3, ro_29_4, ro_29_5, ro_29_6, ro_29_7, ro_29_8, ro_31_0, ro_33_0, ro_35_0, ro_37_0, ro_39_0, ro_41_0, ro_43_0, ro_45_0, ro_45_1, ro_45_2, ro_46_0, ro_48_0, ro_50_0, ro_52_0, ro_52_1, ro_52_2, ro_52_3, ro_53_0, ro_55_0, ro_57_0, ro_59_0, ro_61_0, ro_61_1, ro_61_2, ro_61_3, ro_62_0, ro_64_0, ro_66_0, ro_68_0, ro_70_0, ro_70_1, ro_70_2, ro_70_3, ro_70_4, ro_70_5, ro_70_6, ro_70_7, ro_70_8, ro_70_9, ro_71_0, ro_73_0, ro_75_0, ro_77_0, ro_79_0, ro_81_0, ro_83_0, ro_85_0, ro_87_0, ro_89_0, ro_91_0, ro_91_1, ro_91_2, ro_91_3, ro_91_4, ro_91_5, ro_91_6, ro_91_7, ro_91_8, ro_91_9, ro_92_0, ro_94_0, ro_96_0, ro_98_0, ro_100_0, ro_102_0, ro_104_0, ro_106_0, ro_108_0, ro_110_0, ro_112_0, ro_112_1, ro_112_2, ro_112_3, ro_112_4, ro_112_5, ro_112_6, ro_112_7, ro_112_8, ro_112_9, ro_113_0, ro_115_0, ro_117_0, ro_119_0, ro_121_0, ro_123_0, ro_125_0, ro_127_0, ro_129_0, ro_131_0, ro_133_0, ro_133_1, ro_133_2, ro_133_3, ro_133_4, ro_133_5, ro_133_6, ro_133_7, ro_133_8, ro_133_9, ro_134_0, ro_136_0, ro_138_0, ro_140_0, ro_142_0, ro_144_0, ro_146_0, ro_148_0, ro_150_0, ro_152_0, ro_154_0, ro_155_0, ro_157_0, ro_157_1, ro_157_2, ro_157_3, ro_157_4, ro_157_5, ro_157_6, ro_157_7, ro_157_8, ro_157_9, ro_158_0, ro_160_0, ro_162_0, ro_164_0, ro_166_0, ro_168_0, ro_170_0, ro_172_0, ro_174_0, ro_176_0, ro_178_0, ro_180_0, ro_182_1, ro_182_4, ro_182_5, ro_182_6, ro_182_9, ro_182_10, ro_182_11, ro_182_13, ro_182_14, ro_182_15, ro_182_16, ro_182_17, ro_182_20, ro_182_21, ro_182_22, ro_182_23, ro_182_24, ro_182_26, ro_182_27, ro_182_28, lo_3, lo_5, lo_7, lo_9, lo_11, lo_13, lo_15, lo_17, lo_19, lo_21, lo_24, lo_26, lo_28, lo_30, lo_32, lo_34, lo_36, lo_38, lo_40, lo_42, lo_44, lo_47, lo_49, lo_51, lo_54, lo_56, lo_58, lo_60, lo_63, lo_65, lo_67, lo_69, lo_72, lo_74, lo_76, lo_78, lo_80, lo_82, lo_84, lo_86, lo_88, lo_90, lo_93, lo_95, lo_97, lo_99, lo_101, lo_103, lo_105, lo_107, lo_109, lo_111, lo_114, lo_116, lo_118, lo_120, lo_122, lo_124, lo_126, lo_128, lo_130, lo_132, lo_135, lo_137, lo_139, lo_141, lo_143, lo_145, lo_147, lo_149, lo_151, lo_153, lo_156, lo_159, lo_161, lo_163, lo_165, lo_167, lo_169, lo_171, lo_173, lo_175, lo_177, lo_179, lo_181, lo_183, lo_184, lo_185, lo_186, lo_187, lo_188, lo_189, lo_190, lo_191, lo_192, lo_193, lo_194, lo_195, lo_196, lo_197, lo_198, lo_199, lo_200, lo_201, lo_202, lo_203, jp_nn, jp_eq, jp_e1, Classical.not_not, ji0, ji1, ji2, cs26_61, kk_61z, cs26_117, kk_117, cs26_120, kk_120, jl_0, jl_1, jl_2, jl_3, jl_4, jl_5, jl_6, jl_7, jl_8, jl_9, jl_10, jl_11, jl_12, jl_13, jl_14, jl_15, jl_16, jl_17, jl_18, jl_19, jl_20, jl_21, jl_22, jl_23, jl_24, jl_25, jl_26, jl_27, jl_28, jl_29, jl_30, jl_31, jl_32, jl_33, jl_34, jl_35, jl_36, jl_37, jl_38, jl_39, jl_40, jl_95, jl_96, jl_97, jl_98, jl_99, jl_100, jl_101, jl_102, jl_103, jl_104, jl_105, jl_106, jl_107, jl_108, jl_109, jl_110, jl_111, jl_112, jl_113, jl_114, jl_186, jl_1100, jr, ju, jpT, jpF, tnc, Nat.reduceEqDiff, reduceIte, and_false, false_and, not_true_eq_false, not_false_eq_true, or_false, gt_iff_lt, ge_iff_le, Int.lt_irrefl, Int.le_refl]
    refine ⟨T, D, tN_w, byt, tok, cd, fun f h1 e f1_w => ?_, fun L h1 e f1_w ln1 => ?_⟩
    · have y := hE f e
      simp only [qe_1, qe_3, qe_4, qe_5, qe_7, qe_72, qe_10, qe_102, qe_13, qe_14, qe_15, qe_16, qe_17, qe_18, qe_20, qe_22, qe_23, qe_21, qe_24, qe_25, qe_26, qe_27, qe_28, qe_30, qe_31, qe_32, qc_20, qc_22, qc_23, qc_21, qc_24, qc_25, qc_26, qc_27, qc_1, qc_3, qc_4, qc_7, qc_13, qc_28, qc_32, qs_1, qs_2, qs_3, qs_4, qs_5, qs_6, qs_9, qs_10, qs_11, qs_14, qs_15, qs_16, qs_27, qs_17, qs_18, qs_19, qs_20, qs_22, qs_23, qs_28, qs_25, qs_26, qs_7, qs_8, kc_1, kn_1, kc_2, kn_2, kc_3, kn_3, kc_4, kn_4, kc_5, kn_5, kc_6, kn_6, kc_7, kn_7, kc_8, kn_8, kc_9, kn_9, kc_10, kn_10, kc_11, kn_11, kc_12, kn_12, kc_13, kn_13, kc_14, kn_14, kc_15, kn_15, kc_16, kc_17, kc_18, kc_19, kc_20, kc_21, kc_22, kc_23, kc_30, kc_32, kc_40, kc_43, kc_45, kc_48, kc_52, kc_56, kc_57, kc_59, kc_60, kc_61, kc_63, kc_64, kc_72, kc_78, kc_97, kc_99, kc_122, kc_126, kc_128, kc_192, kc_200, kc_255, kc_999, kc_1000, kc_9999, kn_9999, kc_10000, kc_12345, kc_65536, kc_252645135, kc_858993459, kc_1103515245, kc_1431655765, kc_2147483647, kc_0, kc_24, kc_28, kc_37, kc_41, kc_42, kc_73, kc_91, kc_95, kc_96, kc_98, kc_100, kc_112, kc_125, kc_150, kc_162, kc_163, kc_168, kc_186, kc_190, kc_250, kc_355, kc_356, kc_404, kc_405, kc_429, kc_573, kc_1002, kc_1100, kc_1891, kc_2200, kc_4719, kc_4869, kc_4881, kc_5148, kc_19741, kc_25433, kc_320403, kc_628412, kc_629093, kc_660401, kc_679843, kc_918640, kc_979410, kc_1178088, kc_6232410, kc_24644941, kc_36238189, kc_38270444, kc_392531318, kc_425693491, kc_1342154595, kc_2147483648, kc_42328242873, kc_891704255789, kc_1722105685577, kc_1858726030364, ct_0, ct_1, ct_2, ct_3, ct_4, ct_5, cf_0, cf_1, cf_2, cf_3, cf_4, cf_5, w_ty6, w_ty7, m_sv, m_z0, m_hd, m_g0, m_gs, m_s0, m_ss, m_ap, m_an, forall_const, true_and, and_true, ne_eq, not_true_eq_false, not_false_eq_true, false_implies, true_implies, implies_true, eq_self, reduceCtorEq, Nat.reduceDiv, Nat.reduceMod, Int.reduceToNat, or_true, true_or, or_false, false_or, or_self, m_it, m_if, m_c1, m_01, m_02, m_03, m_04, m_10, m_12, m_13, m_14, m_20, m_21, m_23, m_24, m_30, m_31, m_32, m_34, m_40, m_41, m_42, m_43, Int.reduceLE, Int.reduceLT, Int.reduceGE, Int.reduceGT, Int.reduceNeg, Int.reduceAdd, Int.reduceSub, Int.reduceMul, Int.reduceEq, Int.reduceNe, Nat.reduceAdd, jun2, ro_0_0, ro_0_1, ro_0_2, ro_0_3, ro_0_4, ro_0_5, ro_0_6, ro_0_7, ro_0_8, ro_0_9, ro_0_10, ro_0_11, ro_0_12, ro_1_0, ro_1_1, ro_2_0, ro_4_0, ro_6_0, ro_6_1, ro_6_2, ro_6_3, ro_6_4, ro_6_5, ro_6_6, ro_6_7, ro_6_8, ro_8_0, ro_10_0, ro_12_0, ro_14_0, ro_16_0, ro_18_0, ro_20_0, ro_22_0, ro_22_1, ro_22_2, ro_23_0, ro_25_0, ro_27_0, ro_29_0, ro_29_1, ro_29_2, ro_29_3, ro_29_4, ro_29_5, ro_29_6, ro_29_7, ro_29_8, ro_31_0, ro_33_0, ro_35_0, ro_37_0, ro_39_0, ro_41_0, ro_43_0, ro_45_0, ro_45_1, ro_45_2, ro_46_0, ro_48_0, ro_50_0, ro_52_0, ro_52_1, ro_52_2, ro_52_3, ro_53_0, ro_55_0, ro_57_0, ro_59_0, ro_61_0, ro_61_1, ro_61_2, ro_61_3, ro_62_0, ro_64_0, ro_66_0, ro_68_0, ro_70_0, ro_70_1, ro_70_2, ro_70_3, ro_70_4, ro_70_5, ro_70_6, ro_70_7, ro_70_8, ro_70_9, ro_71_0, ro_73_0, ro_75_0, ro_77_0, ro_79_0, ro_81_0, ro_83_0, ro_85_0, ro_87_0, ro_89_0, ro_91_0, ro_91_1, ro_91_2, ro_91_3, ro_91_4, ro_91_5, ro_91_6, ro_91_7, ro_91_8, ro_91_9, ro_92_0, ro_94_0, ro_96_0, ro_98_0, ro_100_0, ro_102_0, ro_104_0, ro_106_0, ro_108_0, ro_110_0, ro_112_0, ro_112_1, ro_112_2, ro_112_3, ro_112_4, ro_112_5, ro_112_6, ro_112_7, ro_112_8, ro_112_9, ro_113_0, ro_115_0, ro_117_0, ro_119_0, ro_121_0, ro_123_0, ro_125_0, ro_127_0, ro_129_0, ro_131_0, ro_133_0, ro_133_1, ro_133_2, ro_133_3, ro_133_4, ro_133_5, ro_133_6, ro_133_7, ro_133_8, ro_133_9, ro_134_0, ro_136_0, ro_138_0, ro_140_0, ro_142_0, ro_144_0, ro_146_0, ro_148_0, ro_150_0, ro_152_0, ro_154_0, ro_155_0, ro_157_0, ro_157_1, ro_157_2, ro_157_3, ro_157_4, ro_157_5, ro_157_6, ro_157_7, ro_157_8, ro_157_9, ro_158_0, ro_160_0, ro_162_0, ro_164_0, ro_166_0, ro_168_0, ro_170_0, ro_172_0, ro_174_0, ro_176_0, ro_178_0, ro_180_0, ro_182_1, ro_182_4, ro_182_5, ro_182_6, ro_182_9, ro_182_10, ro_182_11, ro_182_13, ro_182_14, ro_182_15, ro_182_16, ro_182_17, ro_182_20, ro_182_21, ro_182_22, ro_182_23, ro_182_24, ro_182_26, ro_182_27, ro_182_28, lo_3, lo_5, lo_7, lo_9, lo_11, lo_13, lo_15, lo_17, lo_19, lo_21, lo_24, lo_26, lo_28, lo_30, lo_32, lo_34, lo_36, lo_38, lo_40, lo_42, lo_44, lo_47, lo_49, lo_51, lo_54, lo_56, lo_58, lo_60, lo_63, lo_65, lo_67, lo_69, lo_72, lo_74, lo_76, lo_78, lo_80, lo_82, lo_84, lo_86, lo_88, lo_90, lo_93, lo_95, lo_97, lo_99, lo_101, lo_103, lo_105, lo_107, lo_109, lo_111, lo_114, lo_116, lo_118, lo_120, lo_122, lo_124, lo_126, lo_128, lo_130, lo_132, lo_135, lo_137, lo_139, lo_141, lo_143, lo_145, lo_147, lo_149, lo_151, lo_153, lo_156, lo_159, lo_161, lo_163, lo_165, lo_167, lo_169, lo_171, lo_173, lo_175, lo_177, lo_179, lo_181, lo_183, lo_184, lo_185, lo_186, lo_187, lo_188, lo_189, lo_190, lo_191, lo_192, lo_193, lo_194, lo_195, lo_196, lo_197, lo_198, lo_199, lo_200, lo_201, lo_202, lo_203, jp_nn, jp_eq, jp_e1, Classical.not_not, ji0, ji1, ji2, cs26_61, kk_61z, cs26_117, kk_117, cs26_120, kk_120, jl_0, jl_1, jl_2, jl_3, jl_4, jl_5, jl_6, jl_7, jl_8, jl_9, jl_10, jl_11, jl_12, jl_13, jl_14, jl_15, jl_16, jl_17, jl_18, jl_19, jl_20, jl_21, jl_22, jl_23, jl_24, jl_25, jl_26, jl_27, jl_28, jl_29, jl_30, jl_31, jl_32, jl_33, jl_34, jl_35, jl_36, jl_37, jl_38, jl_39, jl_40, jl_95, jl_96, jl_97, jl_98, jl_99, jl_100, jl_101, jl_102, jl_103, jl_104, jl_105, jl_106, jl_107, jl_108, jl_109, jl_110, jl_111, jl_112, jl_113, jl_114, jl_186, jl_1100, jr, ju, jpT, jpF, tnc, Nat.reduceEqDiff, reduceIte, and_false, false_and, not_true_eq_false, not_false_eq_true, or_false, gt_iff_lt, ge_iff_le, Int.lt_irrefl, Int.le_refl, y]
      refine q1_w f _ e (fun o k z => ?_) (fun k => ?_) (fun o k z => ?_) up_eq
      · rw [up_ne (by omega)]
        exact f1_w o k (by omega)
      · rw [up_ne (by omega)]
        exact f1_w 52 k (by omega)
      · rw [up_ne (by omega)]
        exact f1_w o k (by omega)
    · have ln2 : LNS 61 L (j_up h1 2 1 0) := ⟨(up_ne (by omega)).trans ln1.1, ln1.2.1, fun k x z => ⟨(up_ne (by omega)).trans (ln1.2.2 k x z).1, (up_ne (by omega)).trans (ln1.2.2 k x z).2.1, (up_ne (by omega)).trans (ln1.2.2 k x z).2.2.1, (up_ne (by omega)).trans (ln1.2.2 k x z).2.2.2⟩⟩
      refine ⟨L, ln2, fun h2 f2_w ln3 => q2_w L h2 e (fun o k z => ?_) ln3 ?_⟩
      · rw [f2_w o k (by omega), if_neg (by omega)]
        exact f1_w o k (by omega)
      · rw [f2_w 2 1 (by omega)]
        rfl
  · exact hQ.elim
theorem snd_26 {xs : Nat → Int} {L K : Nat} : ∀ n, SndC CS26 (evF xs L g_ck K g_cW g_M n) := snd_all snd_25 (fun f av h Q hQ => by
  unfold CS26 at hQ
  split at hQ
  · exact Or.inr m_120
  · exact Or.inr m_4
  · exact Or.inl hQ)
end

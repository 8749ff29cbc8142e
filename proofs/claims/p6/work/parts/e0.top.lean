/-! ===== methods of which nothing_w is_w asked_w but that nothing_w is_w made_w ===== -/
def tpE (F : Nat → Bool) : SX → Bool
  | .op (.var t) (.op a (.op b c)) => match t with
    | 1 => true
    | 3 => true
    | 4 => tpE F a
    | 5 => tpE F a
    | 7 => tpE F a && tpE F b && decide (sx_n c ≠ 1)
    | 10 => tpE F a && decide (sx_n c ≠ 1)
    | 13 => tpE F a
    | 14 => tpE F a && tpE F b
    | 15 => tpE F a && tpE F b
    | 16 => tpE F a && tpE F b
    | 17 => tpE F a && tpE F b
    | 18 => tpE F a
    | 20 => tpE F a && tpE F b
    | 21 => tpE F a
    | 22 => tpE F a && tpE F b
    | 23 => tpE F a && tpE F b
    | 24 => tpE F a
    | 25 => tpE F a && tpE F b
    | 26 => tpE F a && tpE F b
    | 27 => tpE F a
    | 28 => tpE F a && tpE F b && tpE F c
    | 30 => tpE F a && tpE F b
    | 31 => true
    | 32 => tpE F a && F (sx_n b)
    | _ => false
  | _ => false
def tpS (F : Nat → Bool) : SX → Bool
  | .op (.var t) (.op a (.op b c)) => match t with
    | 1 => true
    | 2 => tpS F a && tpS F b
    | 3 => tpE F b
    | 4 => true
    | 5 => tpE F a && tpE F b
    | 6 => tpE F a && tpE F b
    | 7 => tpE F a && tpE F b && (match c with
      | .op (.var _) v => tpE F v
      | _ => false)
    | 8 => tpE F a && tpE F b && (match c with
      | .op (.var _) v => tpE F v
      | _ => false)
    | 9 => tpE F a
    | 10 => tpE F a && tpS F b
    | 11 => tpE F a && tpS F b && tpS F c
    | 12 => tpE F a && tpS F b && tpS F c
    | 13 => tpE F a && tpS F b
    | 14 => true
    | 15 => true
    | 16 => tpE F a
    | 27 => tpE F a
    | 17 => true
    | 18 => true
    | 19 => tpE F a && tpS F b
    | 20 => tpS F a
    | 22 => true
    | 23 => tpE F a && tpE F b
    | 28 => tpE F a && tpS F b
    | 25 => tpS F b && tpS F c
    | 26 => tpS F a
    | _ => false
  | _ => false
section TOP
variable {C : CSt} {F : Nat → Bool}
def TpC (C : CSt) (F : Nat → Bool) : Prop := ∀ f, F f = true → ∀ (av : List Int) (h : XH) (Q : Nat → List Int → XH → Prop), (∀ k r h', Q k r h') → C f av h Q
theorem bnd {a b : Bool} (h : (a && b) = true) : a = true ∧ b = true := by
  rw [Bool.and_eq_true] at h
  exact h
theorem tpE_ok (hC : TpC C F) : ∀ t : SX, tpE F t = true → (∀ en h (Q : PQQ), (∀ x h', Q x h') → (pP C t).1 en h Q) ∧ (∀ en h (Qt Qf : XH → Prop), (∀ h', Qt h') → (∀ h', Qf h') → (pP C t).2 en h Qt Qf)
  | .op (.var t) (.op a (.op b c)), e => by
    have ia := tpE_ok hC a
    have ib := tpE_ok hC b
    have ic := tpE_ok hC c
    have hE : ∀ en h (Q : PQQ), (∀ x h', Q x h') → pNE C t a b c (pP C a) (pP C b) (pP C c) en h Q := by
      intro en h Q hQ
      unfold tpE at e
      unfold pNE
      split at e
      · exact hQ _ _
      · exact hQ _ _
      · exact (ia e).1 _ _ _ fun x h1 => hQ _ _
      · exact (ia e).1 _ _ _ fun x h1 => hQ _ _
      · obtain ⟨e1_w, e2_w⟩ := bnd e
        obtain ⟨e1_w, e3_w⟩ := bnd e1_w
        refine (ia e1_w).1 _ _ _ fun x h1 => (ib e3_w).1 _ _ _ fun y h2 => ?_
        have e2' := of_decide_eq_true e2_w
        show p_ld _ _ _ _ _
        unfold p_ld
        split
        · exact fun _ => hQ _ _
        · rename_i z; exact absurd z e2'
        · exact fun _ => hQ _ _
      · obtain ⟨e1_w, e2_w⟩ := bnd e
        refine (ia e1_w).1 _ _ _ fun x h1 => ?_
        have e2' := of_decide_eq_true e2_w
        show p_ln _ _ _ _
        unfold p_ln
        split
        · exact hQ _ _
        · rename_i z; exact absurd z e2'
        · exact hQ _ _
      · exact (ia e).1 _ _ _ fun x h1 => hQ _ _
      · obtain ⟨e1_w, e2_w⟩ := bnd e
        exact (ia e1_w).1 _ _ _ fun x h1 => (ib e2_w).1 _ _ _ fun y h2 => hQ _ _
      · obtain ⟨e1_w, e2_w⟩ := bnd e
        exact (ia e1_w).1 _ _ _ fun x h1 => (ib e2_w).1 _ _ _ fun y h2 => hQ _ _
      · obtain ⟨e1_w, e2_w⟩ := bnd e
        exact (ia e1_w).1 _ _ _ fun x h1 => (ib e2_w).1 _ _ _ fun y h2 => hQ _ _
      · obtain ⟨e1_w, e2_w⟩ := bnd e
        exact (ia e1_w).1 _ _ _ fun x h1 => (ib e2_w).1 _ _ _ fun y h2 _ => hQ _ _
      · exact (ia e).1 _ _ _ fun x h1 => hQ _ _
      · obtain ⟨e1_w, e2_w⟩ := bnd e
        exact (ia e1_w).1 _ _ _ fun x h1 => (ib e2_w).1 _ _ _ fun y h2 => ⟨fun _ => hQ _ _, fun _ => hQ _ _⟩
      · exact (ia e).1 _ _ _ fun x h1 => ⟨fun _ => hQ _ _, fun _ => hQ _ _⟩
      · obtain ⟨e1_w, e2_w⟩ := bnd e
        exact (ia e1_w).1 _ _ _ fun x h1 => (ib e2_w).1 _ _ _ fun y h2 => ⟨fun _ => hQ _ _, fun _ => hQ _ _⟩
      · obtain ⟨e1_w, e2_w⟩ := bnd e
        exact (ia e1_w).1 _ _ _ fun x h1 => (ib e2_w).1 _ _ _ fun y h2 => ⟨fun _ => hQ _ _, fun _ => hQ _ _⟩
      · exact (ia e).1 _ _ _ hQ
      · obtain ⟨e1_w, e2_w⟩ := bnd e
        exact (ia e1_w).2 _ _ _ _ (fun h1 => (ib e2_w).2 _ _ _ _ (fun _ => hQ _ _) (fun _ => hQ _ _)) (fun _ => hQ _ _)
      · obtain ⟨e1_w, e2_w⟩ := bnd e
        exact (ia e1_w).2 _ _ _ _ (fun _ => hQ _ _) (fun h1 => (ib e2_w).2 _ _ _ _ (fun _ => hQ _ _) (fun _ => hQ _ _))
      · exact (ia e).2 _ _ _ _ (fun _ => hQ _ _) (fun _ => hQ _ _)
      · obtain ⟨e1_w, e2_w⟩ := bnd e
        obtain ⟨e1_w, e3_w⟩ := bnd e1_w
        exact (ia e1_w).2 _ _ _ _ (fun h1 => (ib e3_w).1 _ _ _ hQ) (fun h1 => (ic e2_w).1 _ _ _ hQ)
      · obtain ⟨e1_w, e2_w⟩ := bnd e
        exact (ia e1_w).1 _ _ _ fun x h1 => (ib e2_w).1 _ _ _ fun y h2 => hQ _ _
      · exact hQ _ _
      · obtain ⟨e1_w, e2_w⟩ := bnd e
        exact (ia e1_w).1 _ _ _ fun x h1 => hC _ e2_w _ _ _ fun k r h2 _ => hQ _ _
      · cases e
    refine ⟨hE, ?_⟩
    intro en h Qt Qf ht hf
    show pNC C t a b c (pP C a) (pP C b) (pP C c) en h Qt Qf
    have hz : p_nz (pNE C t a b c (pP C a) (pP C b) (pP C c)) en h Qt Qf := hE en h _ fun x h1 => ⟨fun _ => ht _, fun _ => hf _⟩
    unfold tpE at e
    unfold pNC
    split at e
    any_goals exact hz
    · obtain ⟨e1_w, e2_w⟩ := bnd e
      exact (ia e1_w).1 _ _ _ fun x h1 => (ib e2_w).1 _ _ _ fun y h2 => ⟨fun _ => ht _, fun _ => hf _⟩
    · exact (ia e).1 _ _ _ fun x h1 => ⟨fun _ => ht _, fun _ => hf _⟩
    · obtain ⟨e1_w, e2_w⟩ := bnd e
      exact (ia e1_w).1 _ _ _ fun x h1 => (ib e2_w).1 _ _ _ fun y h2 => ⟨fun _ => ht _, fun _ => hf _⟩
    · obtain ⟨e1_w, e2_w⟩ := bnd e
      exact (ia e1_w).1 _ _ _ fun x h1 => (ib e2_w).1 _ _ _ fun y h2 => ⟨fun _ => ht _, fun _ => hf _⟩
    · exact (ia e).2 _ _ _ _ ht hf
    · obtain ⟨e1_w, e2_w⟩ := bnd e
      exact (ia e1_w).2 _ _ _ _ (fun h1 => (ib e2_w).2 _ _ _ _ ht hf) hf
    · obtain ⟨e1_w, e2_w⟩ := bnd e
      exact (ia e1_w).2 _ _ _ _ ht (fun h1 => (ib e2_w).2 _ _ _ _ ht hf)
    · exact (ia e).2 _ _ _ _ hf ht
    · cases e
  | .var _, e => by cases e
  | .op (.op _ _) _, e => by cases e
  | .op (.var _) (.var _), e => by cases e
  | .op (.var _) (.op _ (.var _)), e => by cases e
theorem tpS_ok (hC : TpC C F) : ∀ t : SX, tpS F t = true → ∀ en h (R : PRR), (∀ c vs en' h', R c vs en' h') → pS C t en h R
  | .op (.var t) (.op a (.op b c)), e => by
    have ia := tpS_ok hC a
    have ib := tpS_ok hC b
    have ic := tpS_ok hC c
    have xe := fun t z => (tpE_ok hC t z).1
    have xc := fun t z => (tpE_ok hC t z).2
    intro en h R hR
    show pNS C t a b c (pS C a) (pS C b) (pS C c) en h R
    unfold tpS at e
    unfold pNS
    split at e
    · exact hR _ _ _ _
    · obtain ⟨e1_w, e2_w⟩ := bnd e
      exact ia e1_w _ _ _ fun c vs en1 h1 => ⟨fun _ => ib e2_w _ _ _ hR, fun _ => hR _ _ _ _⟩
    · exact xe _ e _ _ _ fun x h1 => hR _ _ _ _
    · exact hR _ _ _ _
    · obtain ⟨e1_w, e2_w⟩ := bnd e
      exact xe _ e1_w _ _ _ fun x h1 => xe _ e2_w _ _ _ fun y h2 => hR _ _ _ _
    · obtain ⟨e1_w, e2_w⟩ := bnd e
      exact xe _ e1_w _ _ _ fun x h1 => xe _ e2_w _ _ _ fun y h2 => hR _ _ _ _
    · obtain ⟨e1_w, e2_w⟩ := bnd e
      obtain ⟨e1_w, e3_w⟩ := bnd e1_w
      split at e2_w
      · exact xe _ e1_w _ _ _ fun x h1 => xe _ e3_w _ _ _ fun y h2 => xe _ e2_w _ _ _ fun z h3 _ => hR _ _ _ _
      · cases e2_w
    · obtain ⟨e1_w, e2_w⟩ := bnd e
      obtain ⟨e1_w, e3_w⟩ := bnd e1_w
      split at e2_w
      · exact xe _ e1_w _ _ _ fun x h1 => xe _ e3_w _ _ _ fun y h2 => xe _ e2_w _ _ _ fun z h3 _ => hR _ _ _ _
      · cases e2_w
    · exact xe _ e _ _ _ fun x h1 => hR _ _ _ _
    · obtain ⟨e1_w, e2_w⟩ := bnd e
      exact xc _ e1_w _ _ _ _ (fun h1 => ib e2_w _ _ _ hR) (fun h1 => hR _ _ _ _)
    · obtain ⟨e1_w, e2_w⟩ := bnd e
      obtain ⟨e1_w, e3_w⟩ := bnd e1_w
      exact xc _ e1_w _ _ _ _ (fun h1 => ib e3_w _ _ _ hR) (fun h1 => ic e2_w _ _ _ hR)
    · obtain ⟨e1_w, e2_w⟩ := bnd e
      obtain ⟨e1_w, e3_w⟩ := bnd e1_w
      exact ⟨fun _ _ => True, trivial, fun en h _ => xc _ e1_w _ _ _ _ (fun h1 => ib e3_w _ _ _ fun c vs en1 h2 => ⟨fun _ => ic e2_w _ _ _ fun _ _ _ _ _ => trivial, fun _ => hR _ _ _ _, fun _ _ _ => hR _ _ _ _⟩) (fun h1 => hR _ _ _ _)⟩
    · obtain ⟨e1_w, e2_w⟩ := bnd e
      exact ⟨fun _ _ => True, trivial, fun en h _ => ib e2_w _ _ _ fun c vs en1 h2 => ⟨fun _ => xc _ e1_w _ _ _ _ (fun _ => trivial) (fun _ => hR _ _ _ _), fun _ => hR _ _ _ _, fun _ _ _ => hR _ _ _ _⟩⟩
    · exact hR _ _ _ _
    · exact hR _ _ _ _
    · exact xe _ e _ _ _ fun x h1 => hR _ _ _ _
    · exact xe _ e _ _ _ fun x h1 _ => hR _ _ _ _
    · exact hR _ _ _ _
    · exact hR _ _ _ _
    · obtain ⟨e1_w, e2_w⟩ := bnd e
      exact xe _ e1_w _ _ _ fun x h1 => ib e2_w _ _ _ fun c vs en1 h2 => ⟨fun _ => hR _ _ _ _, fun _ => hR _ _ _ _⟩
    · exact ia e _ _ _ hR
    · exact hR _ _ _ _
    · obtain ⟨e1_w, e2_w⟩ := bnd e
      exact xe _ e1_w _ _ _ fun x h1 => xe _ e2_w _ _ _ fun y h2 _ => hR _ _ _ _
    · obtain ⟨e1_w, e2_w⟩ := bnd e
      exact xc _ e1_w _ _ _ _ (fun h1 => ib e2_w _ _ _ hR) (fun h1 => hR _ _ _ _)
    · obtain ⟨e1_w, e2_w⟩ := bnd e
      exact ⟨fun _ => ib e1_w _ _ _ fun c vs en1 h1 _ => hR _ _ _ _, fun _ => ic e2_w _ _ _ hR⟩
    · exact ia e _ _ _ hR
    · cases e
  | .var _, e => by cases e
  | .op (.op _ _) _, e => by cases e
  | .op (.var _) (.var _), e => by cases e
  | .op (.var _) (.op _ (.var _)), e => by cases e
end TOP
/-- the methods that begin anew_w, or_w copy_w a plan -/
def tpL : List Nat := [3, 54, 55, 57, 58, 80, 97, 142, 156]
def CTop : CSt := fun f _ _ Q => tpL.contains f = true ∧ ∀ k r h', Q k r h'
theorem tpL_ok : (tpL.all fun f => tpS (fun g => tpL.contains g) (g_M f).2.2.2.2) = true := by decide +kernel
theorem snd_top {xs : Nat → Int} {L K : Nat} : ∀ n, SndC CTop (evF xs L g_ck K g_cW g_M n) := snd_all snd_none (fun f av h Q hQ => Or.inr (fun av h Q hQ => tpS_ok (F := fun g => tpL.contains g) (fun g e av h Q hq => ⟨e, hq⟩) _ (List.all_eq_true.mp tpL_ok f (by
  have := hQ.1
  rw [List.contains_iff_mem] at this
  exact this)) _ _ _ (fun c vs en' h' _ => hQ.2 _ _ _)))

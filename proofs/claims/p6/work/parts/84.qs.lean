/-! ===== locals that a statement doesn't write_w ===== -/
/-- as_w a statement, as_w cases -/
def nw2 (i : Nat) : SX → Bool × Bool
  | .op (.var t) (.op a (.op b c)) => (match t with
    | 1 => true
    | 2 => (nw2 i a).1 && (nw2 i b).1
    | 3 => !(sx_n a == i)
    | 4 => !(sx_n a == i)
    | 5 => true
    | 6 => true
    | 7 => true
    | 8 => true
    | 9 => true
    | 10 => (nw2 i b).1
    | 11 => (nw2 i b).1 && (nw2 i c).1
    | 12 => (nw2 i b).1 && (nw2 i c).1
    | 13 => (nw2 i b).1
    | 14 => true
    | 15 => true
    | 16 => true
    | 17 => true
    | 18 => true
    | 19 => (nw2 i b).2
    | 20 => (nw2 i a).1
    | 23 => true
    | 27 => true
    | 28 => (nw2 i b).1
    | _ => false, match t with
    | 25 => (nw2 i b).1 && (nw2 i c).2
    | 26 => (nw2 i a).1
    | _ => false)
  | _ => (false, false)
def nw (i : Nat) (t : SX) : Bool := (nw2 i t).1
/-- local i stays_w -/
def KpL (i : Nat) (A : XR) : Prop := ∀ en st c vs en' st', A en st = some (c, vs, en', st') → en'.getD i 0 = en.getD i 0
/-- local i of the rest stays_w -/
def KtL (i : Nat) (A : XR) : Prop := ∀ v en st c vs en' st', A (v :: en) st = some (c, vs, en', st') → en'.getD i 0 = en.getD i 0
theorem set_ne {l : List Int} {i j : Nat} {v : Int} (h : j ≠ i) : (l.set j v).getD i 0 = l.getD i 0 := by
  rw [List.getD_eq_getElem?_getD, List.getD_eq_getElem?_getD, List.getElem?_set_ne h]
section KEEP
variable {xs : Nat → Int} {L K : Nat} {ck : Nat → List Nat} {F : XP} {cW : Nat → Nat → Int} {i : Nat}
theorem kp_same {A : XR} (h : ∀ en st c vs en' st', A en st = some (c, vs, en', st') → en' = en) : KpL i A := fun en st c vs en' st' e => by rw [h _ _ _ _ _ _ e]
theorem kp_c (k : Nat) : KpL i (fun en st => some (k, [], en, st)) := fun en st c vs en' st' e => by cases e; rfl
theorem kp_seq {A B : XR} (hA : KpL i A) (hB_w : KpL i B) : KpL i (s_seq A B) := fun en st c vs en' st' e => by
  unfold s_seq at e
  obtain ⟨⟨c1_w, v1_w, en1, st1_w⟩, e1_w, e2_w⟩ := j_bd e
  dsimp only at e2_w
  have h1 := hA _ _ _ _ _ _ e1_w
  split at e2_w
  · exact (hB_w _ _ _ _ _ _ e2_w).trans h1
  · cases e2_w
    exact h1
theorem kp_if {X : XE} {A B : XR} (hA : KpL i A) (hB_w : KpL i B) : KpL i (s_if X A B) := fun en st c vs en' st' e => by
  unfold s_if at e
  obtain ⟨x, -, e2_w⟩ := j_bd e
  split at e2_w
  · exact hB_w _ _ _ _ _ _ e2_w
  · exact hA _ _ _ _ _ _ e2_w
theorem kp_loop {X : XE} {A B : XR} (hA : KpL i A) (hB_w : KpL i B) : ∀ k, KpL i (s_loop X A B k)
  | 0 => fun en st c vs en' st' e => by cases e
  | k + 1 => fun en st c vs en' st' e => by
    unfold s_loop at e
    obtain ⟨x, -, e2_w⟩ := j_bd e
    split at e2_w
    · cases e2_w; rfl
    · obtain ⟨⟨c1_w, v1_w, en1, st1_w⟩, e3_w, e4_w⟩ := j_bd e2_w
      have h1 := hA _ _ _ _ _ _ e3_w
      dsimp only at e4_w
      split at e4_w
      · obtain ⟨⟨c2, v2, en2, st2_w⟩, e5_w, e6_w⟩ := j_bd e4_w
        have h2 := hB_w _ _ _ _ _ _ e5_w
        dsimp only at e6_w
        split at e6_w
        · exact ((kp_loop hA hB_w k) _ _ _ _ _ _ e6_w).trans (h2.trans h1)
        · cases e6_w
      · split at e4_w
        · cases e4_w; exact h1
        · cases e4_w; exact h1
theorem kp_do {X : XE} {A : XR} (hA : KpL i A) : ∀ k, KpL i (s_do A X k)
  | 0 => fun en st c vs en' st' e => by cases e
  | k + 1 => fun en st c vs en' st' e => by
    unfold s_do at e
    obtain ⟨⟨c1_w, v1_w, en1, st1_w⟩, e3_w, e4_w⟩ := j_bd e
    have h1 := hA _ _ _ _ _ _ e3_w
    dsimp only at e4_w
    split at e4_w
    · obtain ⟨x, -, e6_w⟩ := j_bd e4_w
      split at e6_w
      · cases e6_w; exact h1
      · exact ((kp_do hA k) _ _ _ _ _ _ e6_w).trans h1
    · split at e4_w
      · cases e4_w; exact h1
      · cases e4_w; exact h1
theorem kp_S : ∀ (t : SX), (∀ h : (nw2 i t).1 = true, KpL i (evS xs L ck F K cW t)) ∧ (∀ h : (nw2 i t).2 = true, KtL i (evS xs L ck F K cW t))
  | .op (.var t) (.op a (.op b c)) => by
    have iA := kp_S a
    have iB_w := kp_S b
    have iC := kp_S c
    have sm_w : ∀ {A : XR}, (∀ en st c vs en' st', A en st = some (c, vs, en', st') → en' = en) → KpL i A := fun h => kp_same h
    constructor
    · intro h
      show KpL i (nodeS xs L ck F K cW t a b c (evS xs L ck F K cW a) (evS xs L ck F K cW b) (evS xs L ck F K cW c))
      unfold nw2 at h
      dsimp only at h
      split at h
      · exact sm_w fun en st c vs en' st' e => by cases e; rfl
      · rw [Bool.and_eq_true] at h
        exact kp_seq (iA.1 h.1) (iB_w.1 h.2)
      · intro en st c vs en' st' e
        obtain ⟨x, -, e2_w⟩ := j_bd (show ((evE xs L ck F cW b en st).bind fun x => some (0, [], en.set (sx_n a) (j_hd x.1), x.2)) = _ from e)
        cases e2_w
        exact set_ne (by simpa using h)
      · intro en st c vs en' st' e
        cases e
        exact set_ne (by simpa using h)
      · refine sm_w fun en st c vs en' st' e => ?_
        obtain ⟨x, -, e2_w⟩ := j_bd e
        obtain ⟨y, -, e3_w⟩ := j_bd e2_w
        cases e3_w; rfl
      · refine sm_w fun en st c vs en' st' e => ?_
        obtain ⟨x, -, e2_w⟩ := j_bd e
        obtain ⟨y, -, e3_w⟩ := j_bd e2_w
        cases e3_w; rfl
      · refine sm_w fun en st c' vs en' st' e => ?_
        match c, e with
        | .op (.var ty_w) v, e =>
          obtain ⟨x, -, e2_w⟩ := j_bd e
          obtain ⟨y, -, e3_w⟩ := j_bd e2_w
          obtain ⟨z, -, e4_w⟩ := j_bd e3_w
          obtain ⟨-, e5_w⟩ := j_if e4_w
          cases e5_w; rfl
        | .var _, e => cases e
        | .op (.op _ _) _, e => cases e
      · refine sm_w fun en st c' vs en' st' e => ?_
        match c, e with
        | .op (.var op_w) v, e =>
          obtain ⟨x, -, e2_w⟩ := j_bd e
          obtain ⟨y, -, e3_w⟩ := j_bd e2_w
          obtain ⟨-, e4_w⟩ := j_ifx e3_w
          obtain ⟨z, -, e5_w⟩ := j_bd e4_w
          obtain ⟨-, e6_w⟩ := j_if e5_w
          cases e6_w; rfl
        | .var _, e => cases e
        | .op (.op _ _) _, e => cases e
      · refine sm_w fun en st c vs en' st' e => ?_
        obtain ⟨x, -, e2_w⟩ := j_bd e
        cases e2_w; rfl
      · exact kp_if (iB_w.1 h) (kp_c _)
      · rw [Bool.and_eq_true] at h
        exact kp_if (iB_w.1 h.1) (iC.1 h.2)
      · rw [Bool.and_eq_true] at h
        exact kp_loop (iB_w.1 h.1) (iC.1 h.2) K
      · exact kp_do (iB_w.1 h) K
      · exact sm_w fun en st c vs en' st' e => by cases e; rfl
      · exact sm_w fun en st c vs en' st' e => by cases e; rfl
      · refine sm_w fun en st c vs en' st' e => ?_
        obtain ⟨x, -, e2_w⟩ := j_bd e
        cases e2_w; rfl
      · exact sm_w fun en st c vs en' st' e => by cases e; rfl
      · exact sm_w fun en st c vs en' st' e => by cases e; rfl
      · intro en st c vs en' st' e
        obtain ⟨x, -, e2_w⟩ := j_bd (show ((evE xs L ck F cW a en st).bind fun x => (evS xs L ck F K cW b (j_hd x.1 :: en) x.2).bind fun r => if r.1 = 2 then some (0, r.2) else some r) = _ from e)
        obtain ⟨⟨c1_w, v1_w, en1, st1_w⟩, e3_w, e4_w⟩ := j_bd e2_w
        have h1 := iB_w.2 h _ _ _ _ _ _ _ e3_w
        dsimp only at e4_w
        split at e4_w
        · cases e4_w; exact h1
        · cases e4_w; exact h1
      · exact iA.1 h
      · refine sm_w fun en st c vs en' st' e => ?_
        obtain ⟨x, -, e2_w⟩ := j_bd e
        obtain ⟨y, -, e3_w⟩ := j_bd e2_w
        obtain ⟨-, e4_w⟩ := j_if e3_w
        cases e4_w; rfl
      · refine sm_w fun en st c vs en' st' e => ?_
        obtain ⟨x, -, e2_w⟩ := j_bd e
        obtain ⟨-, e3_w⟩ := j_if e2_w
        cases e3_w; rfl
      · exact kp_if (iB_w.1 h) (kp_c _)
      · cases h
    · intro h
      show KtL i (nodeS xs L ck F K cW t a b c (evS xs L ck F K cW a) (evS xs L ck F K cW b) (evS xs L ck F K cW c))
      unfold nw2 at h
      dsimp only at h
      split at h
      · rw [Bool.and_eq_true] at h
        intro v en st c' vs en' st' e
        have e' : (if (sx_l a).any (fun n => decide ((v :: en).headD 0 = sx_z n)) then (evS xs L ck F K cW b (v :: en).tail st).bind fun r => if r.1 = 0 then none else some r else evS xs L ck F K cW c (v :: en) st) = some (c', vs, en', st') := e
        split at e'
        · obtain ⟨⟨c1_w, v1_w, en1, st1_w⟩, e3_w, e4_w⟩ := j_bd e'
          have h1 := iB_w.1 h.1 _ _ _ _ _ _ e3_w
          dsimp only at e4_w
          split at e4_w
          · cases e4_w
          · cases e4_w; exact h1
        · exact iC.2 h.2 _ _ _ _ _ _ _ e'
      · intro v en st c' vs en' st' e
        exact iA.1 h _ _ _ _ _ _ e
      · cases h
  | .var _ => ⟨fun h => (by cases h), fun h => (by cases h)⟩
  | .op (.op _ _) _ => ⟨fun h => (by cases h), fun h => (by cases h)⟩
  | .op (.var _) (.var _) => ⟨fun h => (by cases h), fun h => (by cases h)⟩
  | .op (.var _) (.op _ (.var _)) => ⟨fun h => (by cases h), fun h => (by cases h)⟩
end KEEP

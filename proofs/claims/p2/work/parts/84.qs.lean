/-! ===== locals that a statement doesn't write ===== -/
/-- as a statement, as cases -/
def nw2 (i : Nat) : SX → Bool × Bool
  | .op (.var t) (.op a (.op b c)) => (match t with
    | 1 => true
    | 2 => (nw2 i a).1 && (nw2 i b).1
    | 3 => !(sx_n a == i)
    | 4 => !(sx_n a == i)
    | 5 => true
    | 6 => true
    | 7 => true
    | 8 => true
    | 9 => true
    | 10 => (nw2 i b).1
    | 11 => (nw2 i b).1 && (nw2 i c).1
    | 12 => (nw2 i b).1 && (nw2 i c).1
    | 13 => (nw2 i b).1
    | 14 => true
    | 15 => true
    | 16 => true
    | 17 => true
    | 18 => true
    | 19 => (nw2 i b).2
    | 20 => (nw2 i a).1
    | 23 => true
    | 27 => true
    | 28 => (nw2 i b).1
    | _ => false, match t with
    | 25 => (nw2 i b).1 && (nw2 i c).2
    | 26 => (nw2 i a).1
    | _ => false)
  | _ => (false, false)
def nw (i : Nat) (t : SX) : Bool := (nw2 i t).1
/-- local i stays -/
def Kp (i : Nat) (A : XR) : Prop := ∀ en st c vs en' st', A en st = some (c, vs, en', st') → en'.getD i 0 = en.getD i 0
/-- local i of the rest stays -/
def Kt (i : Nat) (A : XR) : Prop := ∀ v en st c vs en' st', A (v :: en) st = some (c, vs, en', st') → en'.getD i 0 = en.getD i 0
theorem set_ne {l : List Int} {i j : Nat} {v : Int} (h : j ≠ i) : (l.set j v).getD i 0 = l.getD i 0 := by
  rw [List.getD_eq_getElem?_getD, List.getD_eq_getElem?_getD, List.getElem?_set_ne h]
section KEEP
variable {xs : Nat → Int} {L K : Nat} {ck : Nat → List Nat} {F : XP} {cW : Nat → Nat → Int} {i : Nat}
theorem kp_same {A : XR} (h : ∀ en st c vs en' st', A en st = some (c, vs, en', st') → en' = en) : Kp i A := fun en st c vs en' st' e => by rw [h _ _ _ _ _ _ e]
theorem kp_seq {A B : XR} (hA : Kp i A) (hB : Kp i B) : Kp i (s_seq A B) := fun en st c vs en' st' e => by
  unfold s_seq at e
  obtain ⟨⟨c1, v1, en1, st1⟩, e1, e2⟩ := j_bd e
  dsimp only at e2
  have h1 := hA _ _ _ _ _ _ e1
  split at e2
  · exact (hB _ _ _ _ _ _ e2).trans h1
  · cases e2
    exact h1
theorem kp_if {X : XE} {A B : XR} (hA : Kp i A) (hB : Kp i B) : Kp i (s_if X A B) := fun en st c vs en' st' e => by
  unfold s_if at e
  obtain ⟨x, -, e2⟩ := j_bd e
  split at e2
  · exact hB _ _ _ _ _ _ e2
  · exact hA _ _ _ _ _ _ e2
theorem kp_loop {X : XE} {A B : XR} (hA : Kp i A) (hB : Kp i B) : ∀ k, Kp i (s_loop X A B k)
  | 0 => fun en st c vs en' st' e => by cases e
  | k + 1 => fun en st c vs en' st' e => by
    unfold s_loop at e
    obtain ⟨x, -, e2⟩ := j_bd e
    split at e2
    · cases e2; rfl
    · obtain ⟨⟨c1, v1, en1, st1⟩, e3, e4⟩ := j_bd e2
      have h1 := hA _ _ _ _ _ _ e3
      dsimp only at e4
      split at e4
      · obtain ⟨⟨c2, v2, en2, st2⟩, e5, e6⟩ := j_bd e4
        have h2 := hB _ _ _ _ _ _ e5
        dsimp only at e6
        split at e6
        · exact ((kp_loop hA hB k) _ _ _ _ _ _ e6).trans (h2.trans h1)
        · cases e6
      · split at e4
        · cases e4; exact h1
        · cases e4; exact h1
theorem kp_do {X : XE} {A : XR} (hA : Kp i A) : ∀ k, Kp i (s_do A X k)
  | 0 => fun en st c vs en' st' e => by cases e
  | k + 1 => fun en st c vs en' st' e => by
    unfold s_do at e
    obtain ⟨⟨c1, v1, en1, st1⟩, e3, e4⟩ := j_bd e
    have h1 := hA _ _ _ _ _ _ e3
    dsimp only at e4
    split at e4
    · obtain ⟨x, -, e6⟩ := j_bd e4
      split at e6
      · cases e6; exact h1
      · exact ((kp_do hA k) _ _ _ _ _ _ e6).trans h1
    · split at e4
      · cases e4; exact h1
      · cases e4; exact h1
theorem kp_S : ∀ (t : SX), (∀ h : (nw2 i t).1 = true, Kp i (evS xs L ck F K cW t)) ∧ (∀ h : (nw2 i t).2 = true, Kt i (evS xs L ck F K cW t))
  | .op (.var t) (.op a (.op b c)) => by
    have iA := kp_S a
    have iB := kp_S b
    have iC := kp_S c
    have sm : ∀ {A : XR}, (∀ en st c vs en' st', A en st = some (c, vs, en', st') → en' = en) → Kp i A := fun h => kp_same h
    constructor
    · intro h
      show Kp i (nodeS xs L ck F K cW t a b c (evS xs L ck F K cW a) (evS xs L ck F K cW b) (evS xs L ck F K cW c))
      unfold nw2 at h
      dsimp only at h
      split at h
      · exact sm fun en st c vs en' st' e => by cases e; rfl
      · rw [Bool.and_eq_true] at h
        exact kp_seq (iA.1 h.1) (iB.1 h.2)
      · intro en st c vs en' st' e
        obtain ⟨x, -, e2⟩ := j_bd (show ((evE xs L ck F cW b en st).bind fun x => some (0, [], en.set (sx_n a) (j_hd x.1), x.2)) = _ from e)
        cases e2
        exact set_ne (by simpa using h)
      · intro en st c vs en' st' e
        cases e
        exact set_ne (by simpa using h)
      · refine sm fun en st c vs en' st' e => ?_
        obtain ⟨x, -, e2⟩ := j_bd e
        obtain ⟨y, -, e3⟩ := j_bd e2
        cases e3; rfl
      · refine sm fun en st c vs en' st' e => ?_
        obtain ⟨x, -, e2⟩ := j_bd e
        obtain ⟨y, -, e3⟩ := j_bd e2
        cases e3; rfl
      · refine sm fun en st c' vs en' st' e => ?_
        dsimp only [nodeS] at e
        split at e
        · obtain ⟨x, -, e2⟩ := j_bd e
          obtain ⟨y, -, e3⟩ := j_bd e2
          obtain ⟨z, -, e4⟩ := j_bd e3
          obtain ⟨-, e5⟩ := j_if e4
          cases e5; rfl
        · cases e
      · refine sm fun en st c' vs en' st' e => ?_
        dsimp only [nodeS] at e
        split at e
        · obtain ⟨x, -, e2⟩ := j_bd e
          obtain ⟨y, -, e3⟩ := j_bd e2
          obtain ⟨-, e4⟩ := j_ifx e3
          obtain ⟨z, -, e5⟩ := j_bd e4
          obtain ⟨-, e6⟩ := j_if e5
          cases e6; rfl
        · cases e
      · refine sm fun en st c vs en' st' e => ?_
        obtain ⟨x, -, e2⟩ := j_bd e
        cases e2; rfl
      · exact kp_if (iB.1 h) (sm fun en st c vs en' st' e => by cases e; rfl)
      · rw [Bool.and_eq_true] at h
        exact kp_if (iB.1 h.1) (iC.1 h.2)
      · rw [Bool.and_eq_true] at h
        exact kp_loop (iB.1 h.1) (iC.1 h.2) K
      · exact kp_do (iB.1 h) K
      · exact sm fun en st c vs en' st' e => by cases e; rfl
      · exact sm fun en st c vs en' st' e => by cases e; rfl
      · refine sm fun en st c vs en' st' e => ?_
        obtain ⟨x, -, e2⟩ := j_bd e
        cases e2; rfl
      · exact sm fun en st c vs en' st' e => by cases e; rfl
      · exact sm fun en st c vs en' st' e => by cases e; rfl
      · intro en st c vs en' st' e
        obtain ⟨x, -, e2⟩ := j_bd (show ((evE xs L ck F cW a en st).bind fun x => (evS xs L ck F K cW b (j_hd x.1 :: en) x.2).bind fun r => if r.1 = 2 then some (0, r.2) else some r) = _ from e)
        obtain ⟨⟨c1, v1, en1, st1⟩, e3, e4⟩ := j_bd e2
        have h1 := iB.2 h _ _ _ _ _ _ _ e3
        dsimp only at e4
        split at e4
        · cases e4; exact h1
        · cases e4; exact h1
      · exact iA.1 h
      · refine sm fun en st c vs en' st' e => ?_
        obtain ⟨x, -, e2⟩ := j_bd e
        obtain ⟨y, -, e3⟩ := j_bd e2
        obtain ⟨-, e4⟩ := j_if e3
        cases e4; rfl
      · refine sm fun en st c vs en' st' e => ?_
        obtain ⟨x, -, e2⟩ := j_bd e
        obtain ⟨-, e3⟩ := j_if e2
        cases e3; rfl
      · exact kp_if (iB.1 h) (sm fun en st c vs en' st' e => by cases e; rfl)
      · cases h
    · intro h
      show Kt i (nodeS xs L ck F K cW t a b c (evS xs L ck F K cW a) (evS xs L ck F K cW b) (evS xs L ck F K cW c))
      unfold nw2 at h
      dsimp only at h
      split at h
      · rw [Bool.and_eq_true] at h
        intro v en st c' vs en' st' e
        have e' : (if (sx_l a).any (fun n => decide ((v :: en).headD 0 = sx_z n)) then (evS xs L ck F K cW b (v :: en).tail st).bind fun r => if r.1 = 0 then none else some r else evS xs L ck F K cW c (v :: en) st) = some (c', vs, en', st') := e
        split at e'
        · obtain ⟨⟨c1, v1, en1, st1⟩, e3, e4⟩ := j_bd e'
          have h1 := iB.1 h.1 _ _ _ _ _ _ e3
          dsimp only at e4
          split at e4
          · cases e4
          · cases e4; exact h1
        · exact iC.2 h.2 _ _ _ _ _ _ _ e'
      · intro v en st c' vs en' st' e
        exact iA.1 h _ _ _ _ _ _ e
      · cases h
  | .var _ => ⟨fun h => (by cases h), fun h => (by cases h)⟩
  | .op (.op _ _) _ => ⟨fun h => (by cases h), fun h => (by cases h)⟩
  | .op (.var _) (.var _) => ⟨fun h => (by cases h), fun h => (by cases h)⟩
  | .op (.var _) (.op _ (.var _)) => ⟨fun h => (by cases h), fun h => (by cases h)⟩
end KEEP

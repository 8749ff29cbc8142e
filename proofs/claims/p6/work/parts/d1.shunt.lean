/-! ===== the law_w as_w a machine_w: what waits is_w what the reference_w has_w still_w to do ===== -/
def rkk (t : Int) : Nat := if t = -6 ∨ t = -7 then 1 else if t = -8 ∨ t = -9 then 2 else if t = -10 ∨ t = -11 then 3 else if t = -12 then 4 else if t = -5 then 5 else 0
/-- the reference's code of one that waits -/
def cdt (t : Int) : Int := if t = -12 then 6 else if t = -10 then 4 else if t = -11 then 5 else if t = -8 then 7 else if t = -9 then 8 else if t = -6 then 9 else if t = -7 then 10 else 3
def dpw : List Int → Nat
  | [] => 0
  | w :: l => (if w = -5 ∨ w = -13 then 1 else 0) + dpw l
def hrw : List Int → Nat
  | [] => 0
  | w :: _ => rkk w
/-- how those that wait may_w lie, the last_w one first -/
def shp : List Int → Prop
  | [] => True
  | w :: l => shp l ∧ (w = -13 ∨ w = -5 ∨ (1 ≤ rkk w ∧ rkk w ≤ 4 ∧ hrw l < rkk w))
abbrev LZ : Type := XZ (List Int × Nat)
def Prg (N : Nat) (f : Nat → LZ) : Prop := ∀ i c j, i ≤ N → f i = .ok (c, j) → i < j ∧ j ≤ N
section SLP
variable {N : Nat} {sub : Nat → LZ} {op_w : Nat → Option Int}
theorem eB_cg {α β : Type} {x : XZ α} {f g : α → XZ β} (h : ∀ a, x = .ok a → f a = g a) : eB x f = eB x g := by
  cases x with
  | error e => rfl
  | ok a => exact h a rfl
theorem sLoop_prg (hs : Prg N sub) (ho : ∀ i, i ≤ N → op_w i ≠ none → i < N) : ∀ (k : Nat) (c : List Int) (i : Nat) (c' : List Int) (j : Nat), i ≤ N → sLoop sub op_w k c i = .ok (c', j) → i ≤ j ∧ j ≤ N
  | 0, c, i, c', j, hi_w, e => by
    cases e
    exact ⟨Nat.le_refl _, hi_w⟩
  | k + 1, c, i, c', j, hi_w, e => by
    rw [sLoop] at e
    split at e
    · cases e
      exact ⟨Nat.le_refl _, hi_w⟩
    · rename_i o eo
      obtain ⟨⟨r, m⟩, e1_w, e2_w⟩ := eB_ok e
      have z := hs (i + 1) r m (ho i hi_w (by rw [eo]; exact fun y => by cases y)) e1_w
      have z2 := sLoop_prg hs ho k _ _ _ _ z.2 e2_w
      omega
theorem sLoop_fu (hs : Prg N sub) (ho : ∀ i, i ≤ N → op_w i ≠ none → i < N) : ∀ (k k' : Nat) (c : List Int) (i : Nat), i ≤ N → N ≤ i + k → N ≤ i + k' → sLoop sub op_w k c i = sLoop sub op_w k' c i
  | 0, 0, _, _, _, _, _ => rfl
  | 0, k' + 1, c, i, hi_w, h1, _ => by
    rw [sLoop, sLoop]
    split
    · rfl
    · rename_i o eo
      have := ho i hi_w (by rw [eo]; exact fun y => by cases y)
      omega
  | k + 1, 0, c, i, hi_w, _, h2 => by
    rw [sLoop, sLoop]
    split
    · rfl
    · rename_i o eo
      have := ho i hi_w (by rw [eo]; exact fun y => by cases y)
      omega
  | k + 1, k' + 1, c, i, hi_w, h1, h2 => by
    rw [sLoop, sLoop]
    split
    · rfl
    · rename_i o eo
      refine eB_cg fun a ea => ?_
      have z := hs (i + 1) a.1 a.2 (ho i hi_w (by rw [eo]; exact fun y => by cases y)) ea
      exact sLoop_fu hs ho k k' _ _ z.2 (by omega) (by omega)
/-- one turn_w of it, the fuel aside -/
theorem sLoop_st (hs : Prg N sub) (ho : ∀ i, i ≤ N → op_w i ≠ none → i < N) {c : List Int} {i : Nat} (hi_w : i ≤ N) (hf : N ≤ i + 1102) {o : Int} (eo : op_w i = some o) : sLoop sub op_w 1102 c i = eB (sub (i + 1)) fun r => sLoop sub op_w 1102 (c ++ (r.1 ++ [o])) r.2 := by
  rw [sLoop, eo]
  refine eB_cg fun a ea => ?_
  have z := hs (i + 1) a.1 a.2 (ho i hi_w (by rw [eo]; exact fun y => by cases y)) ea
  exact sLoop_fu hs ho 1101 1102 _ _ z.2 (by omega) (by omega)
theorem sLoop_no {c : List Int} {i : Nat} (eo : op_w i = none) : sLoop sub op_w 1102 c i = .ok (c, i) := by
  rw [sLoop, eo]
theorem sLoop_pf {p : List Int} : ∀ (k : Nat) (c : List Int) (i : Nat), sLoop sub op_w k (p ++ c) i = eB (sLoop sub op_w k c i) fun r => .ok (p ++ r.1, r.2)
  | 0, _, _ => rfl
  | k + 1, c, i => by
    rw [sLoop, sLoop]
    split
    · rfl
    · rw [eB_as]
      refine eB_cg fun a _ => ?_
      rw [List.append_assoc, sLoop_pf k]
end SLP
section LAWM
variable (S P V W : Nat → Int)
/-- a sign behind_w a part, as_w the class has_w it -/
def jt (i : Nat) : Int := if sSn S V 60 i then -8 else if sSn S V 61 i then -9 else if sSn S V 43 i then -10 else if sSn S V 45 i then -11 else if sSn S V 42 i then -12 else if sSn S V 41 i then -14 else if sWd S V W 18 i then -6 else if sWd S V W 19 i then -7 else -15
def opS (s i : Nat) : Option Int := if s = 1 then opT S V i else if s = 2 then opA S V i else if s = 3 then opC S V i else opL S V W i
def stC (x : Option Int) (y : LZ) (O : List Int) (i : Nat) : LZ := match x with
  | none => .ok (O, i)
  | some o => eB y fun q => .ok (O ++ (q.1 ++ [o]), q.2)
def stg (part : Nat → LZ) (s : Nat) (O : List Int) (i : Nat) : LZ := if s = 1 then sLoop part (opT S V) 1102 O i else if s = 2 then sLoop (sProd S V part) (opA S V) 1102 O i else if s = 3 then stC (opC S V i) (sSums S V part (i + 1)) O i else sLoop (sTest S V part) (opL S V W) 1102 O i
def csc (part : Nat → LZ) : Nat → Nat → List Int → Nat → LZ
  | _, 0, O, i => .ok (O, i)
  | s, n + 1, O, i => eB (stg S V W part s O i) fun r => csc part (s + 1) n r.1 r.2
def ptd (d : Nat) : Nat → LZ := (sD S P V W (5 - d)).2
/-- what the reference_w answers_w, where a part has_w ended_w and these wait -/
def den : List Int → Nat → List Int → Nat → LZ
  | [], s, O, i => csc S V W (ptd S P V W 0) s (5 - s) O i
  | w :: l, s, O, i => if w = -5 then den l 1 (O ++ [3]) i
    else if w = -13 then eB (csc S V W (ptd S P V W (dpw l + 1)) s (5 - s) O i) fun r => eB (sSgn S P V 41 r.2) fun j => den l 1 r.1 j
    else eB (csc S V W (ptd S P V W (dpw l)) s (5 - rkk w - s) O i) fun r => den l (if rkk w = 2 then 4 else 5 - rkk w) (r.1 ++ [cdt w]) r.2
/-- where a part is_w due -/
def denT (l : List Int) (O : List Int) (i : Nat) : LZ := eB (ptd S P V W (dpw l) i) fun r => den S P V W l 1 (O ++ r.1) r.2
end LAWM
section LAWP
variable {S P V W : Nat → Int} {N i s : Nat} {O : List Int} {l : List Int} {part : Nat → LZ}
theorem opS_jt (h1 : 1 ≤ s) (h4 : s ≤ 4) : opS S V W s i = if rkk (jt S V W i) = 5 - s then some (cdt (jt S V W i)) else none := by
  have hs : s = 1 ∨ s = 2 ∨ s = 3 ∨ s = 4 := by omega
  unfold jt
  by_cases a3 : S i = 3
  · have a1_w : ¬ sWd S V W 18 i := fun z => by have := z.1; omega
    have a2 : ¬ sWd S V W 19 i := fun z => by have := z.1; omega
    rw [if_neg a1_w, if_neg a2]
    by_cases b1 : V i = 60
    · rcases hs with rfl | rfl | rfl | rfl <;> simp [opS, opT, opA, opC, opL, a1_w, a2, a3, b1, rkk, cdt, sSn]
    · by_cases b2 : V i = 61
      · rcases hs with rfl | rfl | rfl | rfl <;> simp [opS, opT, opA, opC, opL, a1_w, a2, a3, b2, rkk, cdt, sSn]
      · by_cases b3 : V i = 43
        · rcases hs with rfl | rfl | rfl | rfl <;> simp [opS, opT, opA, opC, opL, a1_w, a2, a3, b3, rkk, cdt, sSn]
        · by_cases b4 : V i = 45
          · rcases hs with rfl | rfl | rfl | rfl <;> simp [opS, opT, opA, opC, opL, a1_w, a2, a3, b4, rkk, cdt, sSn]
          · by_cases b5 : V i = 42
            · rcases hs with rfl | rfl | rfl | rfl <;> simp [opS, opT, opA, opC, opL, a1_w, a2, a3, b5, rkk, cdt, sSn]
            · by_cases b6 : V i = 41
              · rcases hs with rfl | rfl | rfl | rfl <;> simp [opS, opT, opA, opC, opL, a1_w, a2, a3, b6, rkk, cdt, sSn]
              · rcases hs with rfl | rfl | rfl | rfl <;> simp [opS, opT, opA, opC, opL, a1_w, a2, a3, b1, b2, b3, b4, b5, b6, rkk, cdt, sSn]
  · have ns : ∀ c, ¬ sSn S V c i := fun c z => a3 z.1
    rw [if_neg (ns _), if_neg (ns _), if_neg (ns _), if_neg (ns _), if_neg (ns _), if_neg (ns _)]
    by_cases c1_w : sWd S V W 18 i
    · rw [if_pos c1_w]
      rcases hs with rfl | rfl | rfl | rfl
      · simp [opS, opT, ns, rkk]
      · simp [opS, opA, ns, rkk]
      · simp [opS, opC, ns, rkk]
      · exact if_pos c1_w
    · rw [if_neg c1_w]
      by_cases c2 : sWd S V W 19 i
      · rw [if_pos c2]
        rcases hs with rfl | rfl | rfl | rfl
        · simp [opS, opT, ns, rkk]
        · simp [opS, opA, ns, rkk]
        · simp [opS, opC, ns, rkk]
        · exact (if_neg c1_w).trans (if_pos c2)
      · rw [if_neg c2]
        rcases hs with rfl | rfl | rfl | rfl
        · simp [opS, opT, ns, rkk]
        · simp [opS, opA, ns, rkk]
        · simp [opS, opC, ns, rkk]
        · exact (if_neg c1_w).trans (if_neg c2)
theorem opS_lt (h0 : S N = 0) (hi_w : i ≤ N) (h : opS S V W s i ≠ none) : i < N := by
  rcases Nat.lt_or_eq_of_le hi_w with z | rfl
  · exact z
  · refine absurd ?_ h
    have ns : ∀ c, ¬ sSn S V c i := fun c z => by have := z.1; omega
    have nw : ∀ c, ¬ sWd S V W c i := fun c z => by have := z.1; omega
    unfold opS opT opA opC opL
    simp [ns, nw]
theorem opT_lt (h0 : S N = 0) : ∀ i, i ≤ N → opT S V i ≠ none → i < N := fun i hi_w h => opS_lt (s := 1) (W := V) h0 hi_w h
theorem opA_lt (h0 : S N = 0) : ∀ i, i ≤ N → opA S V i ≠ none → i < N := fun i hi_w h => opS_lt (s := 2) (W := V) h0 hi_w h
theorem opC_lt (h0 : S N = 0) : ∀ i, i ≤ N → opC S V i ≠ none → i < N := fun i hi_w h => opS_lt (s := 3) (W := V) h0 hi_w h
theorem opL_lt (h0 : S N = 0) : ∀ i, i ≤ N → opL S V W i ≠ none → i < N := fun i hi_w h => opS_lt (s := 4) (W := W) h0 hi_w h
theorem prod_prg (h0 : S N = 0) (hp : Prg N part) : Prg N (sProd S V part) := fun i c j hi_w e => by
  obtain ⟨⟨r, m⟩, e1_w, e2_w⟩ := eB_ok e
  have z := hp i r m hi_w e1_w
  have z2 := sLoop_prg hp (opT_lt h0) _ _ _ _ _ z.2 e2_w
  omega
theorem sums_prg (h0 : S N = 0) (hp : Prg N part) : Prg N (sSums S V part) := fun i c j hi_w e => by
  obtain ⟨⟨r, m⟩, e1_w, e2_w⟩ := eB_ok e
  have z := prod_prg h0 hp i r m hi_w e1_w
  have z2 := sLoop_prg (prod_prg h0 hp) (opA_lt h0) _ _ _ _ _ z.2 e2_w
  omega
theorem test_prg (h0 : S N = 0) (hp : Prg N part) : Prg N (sTest S V part) := fun i c j hi_w e => by
  obtain ⟨⟨r, m⟩, e1_w, e2_w⟩ := eB_ok e
  have z := sums_prg h0 hp i r m hi_w e1_w
  dsimp only at e2_w
  split at e2_w
  · cases e2_w
    exact z
  · rename_i o eo
    obtain ⟨⟨q, m2_w⟩, e3_w, e4_w⟩ := eB_ok e2_w
    cases e4_w
    have z2 := sums_prg h0 hp (m + 1) q m2_w (opC_lt h0 m z.2 (by rw [eo]; exact fun y => by cases y)) e3_w
    omega
theorem all_prg (h0 : S N = 0) (hp : Prg N part) : Prg N (sAll S V W part) := fun i c j hi_w e => by
  obtain ⟨⟨r, m⟩, e1_w, e2_w⟩ := eB_ok e
  have z := test_prg h0 hp i r m hi_w e1_w
  have z2 := sLoop_prg (test_prg h0 hp) (opL_lt h0) _ _ _ _ _ z.2 e2_w
  omega
theorem sD_all : ∀ k, (sD S P V W k).1 = sAll S V W (sD S P V W k).2
  | 0 => rfl
  | _ + 1 => rfl
theorem isPt_lt (h0 : S N = 0) (hi_w : i ≤ N) (h : isPt S V W i) : i < N := by
  rcases Nat.lt_or_eq_of_le hi_w with z | rfl
  · exact z
  · exfalso
    rcases h with z | z | z | z
    · omega
    · unfold fct wHere at z
      have nw : ∀ k, decide (sWd S V W (20 + k) i) = false := fun k => decide_eq_false (fun z => by have := z.1; omega)
      have : lst (fun k => decide (sWd S V W (20 + k) i)) 4 = -1 := by
        simp only [lst, nw]
        rfl
      omega
    · have := z.1; omega
    · have := z.1; omega
theorem sD_prg (h0 : S N = 0) : ∀ k, Prg N (sD S P V W k).2
  | 0 => fun i c j hi_w e => by
    have e' : sPart0 S P V W i = .ok (c, j) := e
    unfold sPart0 at e'
    split at e' <;> cases e'
  | k + 1 => fun i c j hi_w e => by
    have e' : sPart S P V W (sD S P V W k).1 (sD S P V W k).2 i = .ok (c, j) := e
    unfold sPart at e'
    split at e'
    · cases e'
    · rename_i ip
      have ip' : i < N := isPt_lt h0 hi_w (Decidable.not_not.mp ip)
      split at e'
      · obtain ⟨⟨r, m⟩, e1_w, e2_w⟩ := eB_ok e'
        cases e2_w
        have z := sD_prg h0 k (i + 1) r m ip' e1_w
        show i < m ∧ m ≤ N
        omega
      · split at e'
        · obtain ⟨⟨r, m⟩, e1_w, e2_w⟩ := eB_ok e'
          obtain ⟨m2_w, e3_w, e4_w⟩ := eB_ok e2_w
          cases e4_w
          rw [sD_all] at e1_w
          have z := all_prg h0 (sD_prg h0 k) (i + 1) r m ip' e1_w
          unfold sSgn at e3_w
          split at e3_w
          · rename_i y
            cases e3_w
            have : m < N := by
              rcases Nat.lt_or_eq_of_le z.2 with z3 | rfl
              · exact z3
              · have y3 : S m = 3 := y.1
                omega
            omega
          · cases e3_w
        · cases e'
          omega
/-- what is_w taken_w behind_w a part, one stage_w after_w the other_w -/
theorem stg_op (h1 : 1 ≤ s) (h4 : s ≤ 4) (h : opS S V W s i = none) : stg S V W part s O i = .ok (O, i) := by
  have hs : s = 1 ∨ s = 2 ∨ s = 3 ∨ s = 4 := by omega
  rcases hs with rfl | rfl | rfl | rfl
  · exact sLoop_no (op_w := opT S V) h
  · exact sLoop_no (op_w := opA S V) h
  · have h' : opC S V i = none := h
    show stC (opC S V i) _ O i = _
    rw [h']
    rfl
  · exact sLoop_no (op_w := opL S V W) h
theorem stg_pf {p : List Int} (h1 : 1 ≤ s) (h4 : s ≤ 4) : stg S V W part s (p ++ O) i = eB (stg S V W part s O i) fun r => .ok (p ++ r.1, r.2) := by
  have hs : s = 1 ∨ s = 2 ∨ s = 3 ∨ s = 4 := by omega
  rcases hs with rfl | rfl | rfl | rfl
  · exact sLoop_pf 1102 O i
  · exact sLoop_pf 1102 O i
  · show stC (opC S V i) (sSums S V part (i + 1)) (p ++ O) i = eB (stC (opC S V i) (sSums S V part (i + 1)) O i) fun r => .ok (p ++ r.1, r.2)
    cases opC S V i with
    | none => rfl
    | some o =>
      unfold stC
      rw [eB_as]
      refine eB_cg fun a _ => ?_
      show (.ok (p ++ O ++ (a.1 ++ [o]), a.2) : LZ) = .ok (p ++ (O ++ (a.1 ++ [o])), a.2)
      rw [List.append_assoc]
  · exact sLoop_pf 1102 O i
theorem csc_pf {p : List Int} : ∀ (n s : Nat) (O : List Int) (i : Nat), 1 ≤ s → s + n ≤ 5 → csc S V W part s n (p ++ O) i = eB (csc S V W part s n O i) fun r => .ok (p ++ r.1, r.2)
  | 0, _, _, _, _, _ => rfl
  | n + 1, s, O, i, h1, h5 => by
    rw [csc, csc, stg_pf h1 (by omega), eB_as, eB_as]
    refine eB_cg fun a _ => ?_
    exact csc_pf n (s + 1) a.1 a.2 (by omega) (by omega)
theorem csc_no : ∀ (n s : Nat), 1 ≤ s → s + n ≤ 5 → (∀ q, s ≤ q → q < s + n → opS S V W q i = none) → csc S V W part s n O i = .ok (O, i)
  | 0, _, _, _, _ => rfl
  | n + 1, s, h1, h5, h => by
    rw [csc, stg_op h1 (by omega) (h s (Nat.le_refl _) (by omega))]
    exact csc_no n (s + 1) (by omega) (by omega) (fun q z1 z2 => h q (by omega) (by omega))
/-- what is_w joined at a stage_w -/
def sbs (S V : Nat → Int) (part : Nat → LZ) (s : Nat) : Nat → LZ := if s = 1 then part else if s = 2 then sProd S V part else if s = 3 then sSums S V part else sTest S V part
theorem eB_id {α : Type} {x : XZ α} : eB x (fun a => .ok a) = x := by
  cases x with
  | error e => rfl
  | ok a => rfl
theorem sbs_csc (h1 : 1 ≤ s) (h4 : s ≤ 4) : sbs S V part s i = eB (part i) fun r => csc S V W part 1 (s - 1) r.1 r.2 := by
  have hs : s = 1 ∨ s = 2 ∨ s = 3 ∨ s = 4 := by omega
  rcases hs with rfl | rfl | rfl | rfl
  · exact (eB_id (x := part i)).symm
  · refine eB_cg fun a _ => ?_
    exact (eB_id (x := sLoop part (opT S V) 1102 a.1 a.2)).symm
  · show eB (sProd S V part i) _ = _
    unfold sProd
    rw [eB_as]
    refine eB_cg fun a _ => ?_
    show eB (sLoop part (opT S V) 1102 a.1 a.2) _ = eB (sLoop part (opT S V) 1102 a.1 a.2) _
    refine eB_cg fun b _ => ?_
    exact (eB_id (x := sLoop (sProd S V part) (opA S V) 1102 b.1 b.2)).symm
  · show eB (sSums S V part i) _ = _
    unfold sSums
    rw [eB_as]
    unfold sProd
    rw [eB_as]
    refine eB_cg fun a _ => ?_
    show eB (sLoop part (opT S V) 1102 a.1 a.2) _ = eB (sLoop part (opT S V) 1102 a.1 a.2) _
    refine eB_cg fun b _ => ?_
    show eB (sLoop (sProd S V part) (opA S V) 1102 b.1 b.2) _ = eB (sLoop (sProd S V part) (opA S V) 1102 b.1 b.2) _
    refine eB_cg fun c _ => ?_
    refine Eq.trans ?_ (eB_id (x := stC (opC S V c.2) (sSums S V part (c.2 + 1)) c.1 c.2)).symm
    cases opC S V c.2 with
    | none => rfl
    | some o => rfl
theorem all_csc : sAll S V W part i = eB (part i) fun r => csc S V W part 1 4 r.1 r.2 := by
  show eB (sTest S V part i) _ = _
  have e : sTest S V part i = eB (part i) fun r => csc S V W part 1 3 r.1 r.2 := sbs_csc (s := 4) (by decide) (by decide)
  rw [e, eB_as]
  refine eB_cg fun a _ => ?_
  show eB (eB (stg S V W part 1 a.1 a.2) _) _ = eB (stg S V W part 1 a.1 a.2) _
  rw [eB_as]
  refine eB_cg fun b _ => ?_
  show eB (eB (stg S V W part 2 b.1 b.2) _) _ = eB (stg S V W part 2 b.1 b.2) _
  rw [eB_as]
  refine eB_cg fun c _ => ?_
  show eB (eB (stg S V W part 3 c.1 c.2) _) _ = eB (stg S V W part 3 c.1 c.2) _
  rw [eB_as]
  refine eB_cg fun d _ => ?_
  exact (eB_id (x := sLoop (sTest S V part) (opL S V W) 1102 d.1 d.2)).symm
/-- a stage_w at its sign -/
theorem stg_some (h0 : S N = 0) (hp : Prg N part) (h1 : 1 ≤ s) (h4 : s ≤ 4) (hi_w : i ≤ N) (hf : N ≤ i + 1102) {o : Int} (h : opS S V W s i = some o) : stg S V W part s O i = eB (sbs S V part s (i + 1)) fun (r : List Int × Nat) => if s = 3 then (.ok (O ++ (r.1 ++ [o]), r.2) : LZ) else stg S V W part s (O ++ (r.1 ++ [o])) r.2 := by
  have hs : s = 1 ∨ s = 2 ∨ s = 3 ∨ s = 4 := by omega
  rcases hs with rfl | rfl | rfl | rfl
  · exact sLoop_st hp (opT_lt h0) hi_w hf h
  · exact sLoop_st (prod_prg h0 hp) (opA_lt h0) hi_w hf h
  · have h' : opC S V i = some o := h
    show stC (opC S V i) _ O i = _
    rw [h']
    rfl
  · exact sLoop_st (test_prg h0 hp) (opL_lt h0) hi_w hf h
theorem rkk_nt {w : Int} (h : rkk w ≤ 4) : w ≠ -5 := fun z => by rw [z] at h; exact absurd h (by decide)
theorem rkk_op {w : Int} (h : 1 ≤ rkk w) : w ≠ -13 := fun z => by rw [z] at h; exact absurd h (by decide)
/-- one stage_w, where none waits for_w it -/
theorem den_st (hh : hrw l + s < 5) (hl : shp l) : den S P V W l s O i = eB (stg S V W (ptd S P V W (dpw l)) s O i) fun r => den S P V W l (s + 1) r.1 r.2 := by
  match l, hh, hl with
  | [], hh, _ =>
    show csc S V W (ptd S P V W 0) s (5 - s) O i = eB (stg S V W (ptd S P V W 0) s O i) fun (r : List Int × Nat) => csc S V W (ptd S P V W 0) (s + 1) (5 - (s + 1)) r.1 r.2
    rw [show 5 - s = (5 - (s + 1)) + 1 by have : hrw [] = 0 := rfl; omega, csc]
  | w :: l, hh, hl =>
    have hr : hrw (w :: l) = rkk w := rfl
    have n5_w : w ≠ -5 := rkk_nt (by omega)
    by_cases n13 : w = -13
    · have d : dpw (w :: l) = dpw l + 1 := by
        show (if w = -5 ∨ w = -13 then 1 else 0) + dpw l = _
        rw [if_pos (Or.inr n13)]
        omega
      rw [d, den, if_neg n5_w, if_pos n13, show 5 - s = (5 - (s + 1)) + 1 by omega, csc, eB_as]
      refine eB_cg fun a _ => ?_
      rw [den, if_neg n5_w, if_pos n13]
    · have d : dpw (w :: l) = dpw l := by
        show (if w = -5 ∨ w = -13 then 1 else 0) + dpw l = _
        rw [if_neg (by omega)]
        omega
      rw [d, den, if_neg n5_w, if_neg n13, show 5 - rkk w - s = (5 - rkk w - (s + 1)) + 1 by omega, csc, eB_as]
      refine eB_cg fun a _ => ?_
      rw [den, if_neg n5_w, if_neg n13]
theorem den_up : ∀ (n s : Nat), 1 ≤ s → hrw l + s + n ≤ 5 → shp l → (∀ q, s ≤ q → q < s + n → opS S V W q i = none) → den S P V W l s O i = den S P V W l (s + n) O i
  | 0, _, _, _, _, _ => rfl
  | n + 1, s, h1, h5, hl, h => by
    rw [den_st (by omega) hl, stg_op h1 (by omega) (h s (Nat.le_refl _) (by omega)), show s + (n + 1) = (s + 1) + n by omega]
    exact den_up n (s + 1) (by omega) (by omega) hl (fun q z1 z2 => h q (by omega) (by omega))
theorem ops_no {t : Int} (e : jt S V W i = t) (h1 : 1 ≤ s) (h4 : s ≤ 4) (h : rkk t ≠ 5 - s) : opS S V W s i = none := by
  rw [opS_jt h1 h4, e, if_neg h]
/-- one that waits goes_w, where the sign here_w binds no stronger -/
theorem den_rel {w t : Int} (e : jt S V W i = t) (hl : shp (w :: l)) (w1_w : 1 ≤ rkk w) (w4_w : rkk w ≤ 4) (ht : rkk t ≤ rkk w) (h2 : ¬ (rkk w = 2 ∧ rkk t = 2)) : den S P V W (w :: l) 1 O i = den S P V W l 1 (O ++ [cdt w]) i := by
  have hs : shp l := hl.1
  have hw : hrw l < rkk w := by
    rcases hl.2 with z | z | z
    · exact absurd z (rkk_op w1_w)
    · exact absurd z (rkk_nt w4_w)
    · exact z.2.2
  rw [den, if_neg (rkk_nt w4_w), if_neg (rkk_op w1_w), csc_no _ _ (by decide) (by omega) (fun q z1 z2 => ops_no e z1 (by omega) (by omega))]
  show den S P V W l (if rkk w = 2 then 4 else 5 - rkk w) (O ++ [cdt w]) i = _
  by_cases y : rkk w = 2
  · rw [if_pos y]
    exact (den_up 3 1 (by decide) (by omega) hs (fun q z1 z2 => ops_no e z1 (by omega) (by omega))).symm
  · rw [if_neg y]
    have k := den_up (S := S) (P := P) (V := V) (W := W) (O := O ++ [cdt w]) (4 - rkk w) 1 (by decide) (by omega) hs (fun q z1 z2 => ops_no e z1 (by omega) (by omega))
    rw [k, show 1 + (4 - rkk w) = 5 - rkk w by omega]
/-- a sign that joins_w waits -/
theorem den_pu {t : Int} (h0 : S N = 0) (hi_w : i ≤ N) (hf : N ≤ i + 1102) (e : jt S V W i = t) (hl : shp l) (t1_w : 1 ≤ rkk t) (t4_w : rkk t ≤ 4) (hw : hrw l < rkk t) : den S P V W l 1 O i = denT S P V W (t :: l) O (i + 1) := by
  have d : dpw (t :: l) = dpw l := by
    show (if t = -5 ∨ t = -13 then 1 else 0) + dpw l = _
    have a := rkk_nt t4_w
    have b := rkk_op t1_w
    rw [if_neg (by omega)]
    omega
  have hp : Prg N (ptd S P V W (dpw l)) := sD_prg h0 _
  have es : opS S V W (5 - rkk t) i = some (cdt t) := by
    rw [opS_jt (by omega) (by omega), e, if_pos (by omega)]
  have k := den_up (S := S) (P := P) (V := V) (W := W) (O := O) (4 - rkk t) 1 (by decide) (by omega) hl (fun q z1 z2 => ops_no e z1 (by omega) (by omega))
  rw [k, show 1 + (4 - rkk t) = 5 - rkk t by omega, den_st (by omega) hl, stg_some h0 hp (by omega) (by omega) hi_w hf es, sbs_csc (W := W) (by omega) (by omega), eB_as, eB_as]
  unfold denT
  rw [d]
  refine eB_cg fun a _ => ?_
  rw [den, if_neg (rkk_nt t4_w), if_neg (rkk_op t1_w), show 5 - rkk t - 1 = 4 - rkk t by omega, csc_pf _ _ _ _ (by decide) (by omega), eB_as]
  refine eB_cg fun b _ => ?_
  show eB (if 5 - rkk t = 3 then .ok (O ++ (b.1 ++ [cdt t]), b.2) else stg S V W (ptd S P V W (dpw l)) (5 - rkk t) (O ++ (b.1 ++ [cdt t])) b.2) (fun r => den S P V W l (5 - rkk t + 1) r.1 r.2) = den S P V W l (if rkk t = 2 then 4 else 5 - rkk t) (O ++ b.1 ++ [cdt t]) b.2
  rw [List.append_assoc]
  by_cases y : rkk t = 2
  · rw [if_pos (by omega), if_pos y, y]
    rfl
  · rw [if_neg (by omega), if_neg y]
    exact (den_st (by omega) hl).symm
/-- a bracket shuts -/
theorem den_cl (e : jt S V W i = -14) (hl : shp (-13 :: l)) : den S P V W (-13 :: l) 1 O i = den S P V W l 1 O (i + 1) := by
  rw [den, if_neg (by decide), if_pos rfl, csc_no _ _ (by decide) (by decide) (fun q z1 z2 => ops_no e z1 (by omega) (by have : rkk (-14) = 0 := rfl; omega))]
  show eB (sSgn S P V 41 i) _ = _
  have k : sSn S V 41 i := by
    refine Decidable.byContradiction fun n => ?_
    unfold jt at e
    rw [if_neg n] at e
    split at e
    · exact absurd e (by decide)
    · split at e
      · exact absurd e (by decide)
      · split at e
        · exact absurd e (by decide)
        · split at e
          · exact absurd e (by decide)
          · split at e
            · exact absurd e (by decide)
            · split at e
              · exact absurd e (by decide)
              · split at e <;> exact absurd e (by decide)
  unfold sSgn
  rw [if_pos k]
  rfl
theorem jt_cl {t : Int} (e : jt S V W i = t) (h : t ≠ -14) : ¬ sSn S V 41 i := fun z => by
  have a3 := z.1
  have a5 := z.2
  unfold jt at e
  rw [if_neg (fun y => by have := y.2; omega), if_neg (fun y => by have := y.2; omega), if_neg (fun y => by have := y.2; omega), if_neg (fun y => by have := y.2; omega), if_neg (fun y => by have := y.2; omega), if_pos z] at e
  exact h e.symm
/-- no stage_w goes_w on_w here_w -/
theorem den_en {t : Int} (e : jt S V W i = t) (ht : t ≠ -14) : ∀ (l : List Int) (s : Nat) (O : List Int), shp l → 1 ≤ s → s ≤ 4 → hrw l + s ≤ 5 → (∀ q, s ≤ q → q ≤ 4 → opS S V W q i = none) → (dpw l = 0 → den S P V W l s O i = .ok (O ++ l.map cdt, i)) ∧ (dpw l ≠ 0 → den S P V W l s O i = .error (er P 1 i))
  | [], s, O, _, h1, h4, _, h => by
    refine ⟨fun _ => ?_, fun z => absurd rfl z⟩
    rw [den, csc_no _ _ h1 (by omega) (fun q z1 z2 => h q z1 (by omega))]
    show _ = (.ok (O ++ [], i) : LZ)
    rw [List.append_nil]
  | w :: l, s, O, hl, h1, h4, hh, h => by
    have hr : hrw (w :: l) = rkk w := rfl
    have n5_w : w ≠ -5 := rkk_nt (by omega)
    by_cases n13 : w = -13
    · have d : dpw (w :: l) = dpw l + 1 := by
        show (if w = -5 ∨ w = -13 then 1 else 0) + dpw l = _
        rw [if_pos (Or.inr n13)]
        omega
      refine ⟨fun z => by omega, fun _ => ?_⟩
      rw [den, if_neg n5_w, if_pos n13, csc_no _ _ h1 (by omega) (fun q z1 z2 => h q z1 (by omega))]
      show eB (sSgn S P V 41 i) _ = _
      unfold sSgn
      rw [if_neg (jt_cl e ht)]
      rfl
    · have d : dpw (w :: l) = dpw l := by
        show (if w = -5 ∨ w = -13 then 1 else 0) + dpw l = _
        rw [if_neg (by omega)]
        omega
      have hw : 1 ≤ rkk w ∧ rkk w ≤ 4 ∧ hrw l < rkk w := by
        rcases hl.2 with z | z | z
        · exact absurd z n13
        · exact absurd z n5_w
        · exact z
      have k : den S P V W (w :: l) s O i = den S P V W l (if rkk w = 2 then 4 else 5 - rkk w) (O ++ [cdt w]) i := by
        rw [den, if_neg n5_w, if_neg n13, csc_no _ _ h1 (by omega) (fun q z1 z2 => h q z1 (by omega))]
        rfl
      have ih_w := den_en e ht l (if rkk w = 2 then 4 else 5 - rkk w) (O ++ [cdt w]) hl.1 (by split <;> omega) (by split <;> omega) (by split <;> omega) (fun q z1 z2 => h q (by split at z1 <;> omega) z2)
      rw [k, d]
      refine ⟨fun z => ?_, ih_w.2⟩
      rw [ih_w.1 z, List.append_assoc]
      rfl
/-- the law_w as_w a whole_w begins so -/
theorem den_0 : (sD S P V W 5).1 i = denT S P V W [] [] i := by
  rw [sD_all, all_csc]
  rfl
/-- a part that is_w none -/
theorem denT_no (hd_w : dpw l ≤ 5) (h : ¬ isPt S V W i) : denT S P V W l O i = .error (er P 1 i) := by
  have k : ptd S P V W (dpw l) i = .error (er P 1 i) := by
    unfold ptd
    cases 5 - dpw l with
    | zero =>
      show sPart0 S P V W i = _
      unfold sPart0
      rw [if_pos h]
    | succ k =>
      show sPart S P V W _ _ i = _
      unfold sPart
      rw [if_pos h]
  unfold denT
  rw [k]
  rfl
/-- too deep_w -/
theorem denT_5 (hd_w : dpw l = 5) (h : isPt S V W i) : denT S P V W l O i = .error (er P 5 i) := by
  have k : ptd S P V W (dpw l) i = .error (er P 5 i) := by
    unfold ptd
    rw [hd_w]
    show sPart0 S P V W i = _
    unfold sPart0
    rw [if_neg (fun z => z h)]
  unfold denT
  rw [k]
  rfl
theorem ptd_s (hd_w : dpw l < 5) (h : isPt S V W i) : ptd S P V W (dpw l) i = if sWd S V W 17 i then eB (ptd S P V W (dpw l + 1) (i + 1)) fun r => .ok (r.1 ++ [3], r.2)
  else if sSn S V 40 i then eB (sAll S V W (ptd S P V W (dpw l + 1)) (i + 1)) fun r => eB (sSgn S P V 41 r.2) fun j => .ok (r.1, j)
  else .ok ([if S i = 2 then 1 + 16 * V i else 2 + 16 * fct S V W i], i + 1) := by
  unfold ptd
  obtain ⟨k, hk⟩ : ∃ k, 5 - dpw l = k + 1 := ⟨4 - dpw l, by omega⟩
  rw [hk, show 5 - (dpw l + 1) = k by omega, ← sD_all]
  show sPart S P V W (sD S P V W k).1 (sD S P V W k).2 i = _
  unfold sPart
  rw [if_neg (fun z => z h)]
theorem denT_nt (hd_w : dpw l < 5) (h : sWd S V W 17 i) : denT S P V W l O i = denT S P V W (-5 :: l) O (i + 1) := by
  have d : dpw (-5 :: l) = dpw l + 1 := by
    show 1 + dpw l = _
    omega
  unfold denT
  rw [ptd_s hd_w (Or.inr (Or.inr (Or.inr h))), if_pos h, eB_as, d]
  refine eB_cg fun a _ => ?_
  show den S P V W l 1 (O ++ (a.1 ++ [3])) a.2 = den S P V W (-5 :: l) 1 (O ++ a.1) a.2
  rw [den, if_pos rfl, List.append_assoc]
theorem denT_op (hd_w : dpw l < 5) (h : sSn S V 40 i) : denT S P V W l O i = denT S P V W (-13 :: l) O (i + 1) := by
  have d : dpw (-13 :: l) = dpw l + 1 := by
    show 1 + dpw l = _
    omega
  have n : ¬ sWd S V W 17 i := fun z => by
    have a := z.1
    have b := h.1
    omega
  unfold denT
  rw [ptd_s hd_w (Or.inr (Or.inr (Or.inl h))), if_neg n, if_pos h, eB_as, d, all_csc, eB_as]
  refine eB_cg fun a _ => ?_
  rw [den, if_neg (by decide), if_pos rfl, csc_pf _ _ _ _ (by decide) (by decide), eB_as]
  show eB (csc S V W (ptd S P V W (dpw l + 1)) 1 4 a.1 a.2) _ = eB (csc S V W (ptd S P V W (dpw l + 1)) 1 4 a.1 a.2) _
  refine eB_cg fun b _ => ?_
  rw [eB_as]
  rfl
theorem denT_pt (hd_w : dpw l < 5) (h : isPt S V W i) (n17 : ¬ sWd S V W 17 i) (n40_w : ¬ sSn S V 40 i) : denT S P V W l O i = den S P V W l 1 (O ++ [if S i = 2 then 1 + 16 * V i else 2 + 16 * fct S V W i]) (i + 1) := by
  unfold denT
  rw [ptd_s hd_w h, if_neg n17, if_neg n40_w]
  rfl
/-- those denied go_w with the part -/
def ntk : List Int → List Int
  | [] => []
  | w :: l => if w = -5 then ntk l else w :: l
def ntn : List Int → Nat
  | [] => 0
  | w :: l => if w = -5 then ntn l + 1 else 0
theorem den_nt : ∀ (l O : List Int), den S P V W l 1 O i = den S P V W (ntk l) 1 (O ++ List.replicate (ntn l) 3) i
  | [], O => by
    show _ = den S P V W [] 1 (O ++ []) i
    rw [List.append_nil]
  | w :: l, O => by
    rw [ntk, ntn]
    by_cases n5_w : w = -5
    · rw [if_pos n5_w, if_pos n5_w, den, if_pos n5_w, den_nt l, List.append_assoc, List.replicate_succ]
      rfl
    · rw [if_neg n5_w, if_neg n5_w]
      show _ = den S P V W (w :: l) 1 (O ++ []) i
      rw [List.append_nil]
theorem ntk_dp : ∀ l : List Int, dpw (ntk l) + ntn l = dpw l ∧ (ntk l).length + ntn l = l.length ∧ (shp l → shp (ntk l) ∧ hrw (ntk l) ≤ 4)
  | [] => ⟨rfl, rfl, fun _ => ⟨trivial, Nat.zero_le _⟩⟩
  | w :: l => by
    rw [ntk, ntn]
    by_cases n5_w : w = -5
    · obtain ⟨a, b, c⟩ := ntk_dp l
      rw [if_pos n5_w, if_pos n5_w]
      refine ⟨?_, ?_, fun z => c z.1⟩
      · show _ = (if w = -5 ∨ w = -13 then 1 else 0) + dpw l
        rw [if_pos (Or.inl n5_w)]
        omega
      · show _ = l.length + 1
        omega
    · rw [if_neg n5_w, if_neg n5_w]
      refine ⟨rfl, rfl, fun z => ⟨z, ?_⟩⟩
      show rkk w ≤ 4
      rcases z.2 with y | y | y
      · rw [y]
        decide
      · exact absurd y n5_w
      · exact y.2.1
/-- those that bind_w at least_w so strongly go_w -/
def rlk (r : Nat) : List Int → List Int
  | [] => []
  | w :: l => if r ≤ rkk w then rlk r l else w :: l
def rlo (r : Nat) : List Int → List Int
  | [] => []
  | w :: l => if r ≤ rkk w then cdt w :: rlo r l else []
theorem rlk_dp {r : Nat} (r1_w : 1 ≤ r) : ∀ l : List Int, shp l → hrw l ≤ 4 → dpw (rlk r l) = dpw l ∧ (rlk r l).length + (rlo r l).length = l.length ∧ shp (rlk r l) ∧ hrw (rlk r l) < r
  | [], _, _ => ⟨rfl, rfl, trivial, r1_w⟩
  | w :: l, hs, h4 => by
    have hr : hrw (w :: l) = rkk w := rfl
    rw [rlk, rlo]
    by_cases y : r ≤ rkk w
    · have hw : 1 ≤ rkk w ∧ rkk w ≤ 4 ∧ hrw l < rkk w := by
        rcases hs.2 with z | z | z
        · exact absurd z (rkk_op (by omega))
        · exact absurd z (rkk_nt (by omega))
        · exact z
      obtain ⟨a, b, c, d⟩ := rlk_dp r1_w l hs.1 (by omega)
      rw [if_pos y, if_pos y]
      refine ⟨?_, ?_, c, d⟩
      · show _ = (if w = -5 ∨ w = -13 then 1 else 0) + dpw l
        have z1 := rkk_nt hw.2.1
        have z2 := rkk_op hw.1
        rw [if_neg (by omega)]
        omega
      · show (rlk r l).length + ((rlo r l).length + 1) = l.length + 1
        omega
    · rw [if_neg y, if_neg y]
      exact ⟨rfl, rfl, hs, by omega⟩
/-- a second_w comparison is_w none -/
def cag : List Int → Bool
  | [] => false
  | w :: l => if 2 ≤ rkk w then (if rkk w = 2 then true else cag l) else false
theorem den_rl {t : Int} {r : Nat} (e : jt S V W i = t) (r1_w : 1 ≤ r) (ht : rkk t ≤ r) : ∀ l O : List Int, shp l → hrw l ≤ 4 → (rkk t = 2 → cag l = false) → den S P V W l 1 O i = den S P V W (rlk r l) 1 (O ++ rlo r l) i
  | [], O, _, _, _ => by
    show _ = den S P V W [] 1 (O ++ []) i
    rw [List.append_nil]
  | w :: l, O, hs, h4, hc_w => by
    have hr : hrw (w :: l) = rkk w := rfl
    rw [rlk, rlo]
    by_cases y : r ≤ rkk w
    · have hw : 1 ≤ rkk w ∧ rkk w ≤ 4 ∧ hrw l < rkk w := by
        rcases hs.2 with z | z | z
        · exact absurd z (rkk_op (by omega))
        · exact absurd z (rkk_nt (by omega))
        · exact z
      have nc : ¬ (rkk w = 2 ∧ rkk t = 2) := fun z => by
        have k := hc_w z.2
        rw [cag, if_pos (by omega), if_pos z.1] at k
        cases k
      rw [if_pos y, if_pos y, den_rel e hs hw.1 hw.2.1 (by omega) nc, den_rl e r1_w ht l _ hs.1 (by omega) (fun z => ?_), List.append_assoc]
      · rfl
      · have k := hc_w z
        rw [cag, if_pos (by omega), if_neg (fun z2 => nc ⟨z2, z⟩)] at k
        exact k
    · rw [if_neg y, if_neg y]
      show _ = den S P V W (w :: l) 1 (O ++ []) i
      rw [List.append_nil]
/-- a second_w comparison: what is_w told_w of it -/
theorem den_cg {t : Int} (e : jt S V W i = t) (t2_w : rkk t = 2) : ∀ l O : List Int, shp l → hrw l ≤ 4 → cag l = true → (eB (den S P V W l 1 O i) fun r => sSgn S P V 59 r.2) = .error (er P 1 i)
  | [], _, _, _, h => by cases h
  | w :: l, O, hs, h4, h => by
    have hr : hrw (w :: l) = rkk w := rfl
    rw [cag] at h
    by_cases y : 2 ≤ rkk w
    · have hw : 1 ≤ rkk w ∧ rkk w ≤ 4 ∧ hrw l < rkk w := by
        rcases hs.2 with z | z | z
        · exact absurd z (rkk_op (by omega))
        · exact absurd z (rkk_nt (by omega))
        · exact z
      rw [if_pos y] at h
      by_cases y2 : rkk w = 2
      · have n14_w : t ≠ -14 := fun z => by
          rw [z] at t2_w
          exact absurd t2_w (by decide)
        have k : den S P V W (w :: l) 1 O i = den S P V W l 4 (O ++ [cdt w]) i := by
          rw [den, if_neg (rkk_nt hw.2.1), if_neg (rkk_op hw.1), csc_no _ _ (by decide) (by omega) (fun q z1 z2 => ops_no e z1 (by omega) (by omega)), if_pos y2]
          rfl
        have k2 := den_en (P := P) e n14_w l 4 (O ++ [cdt w]) hs.1 (by decide) (by decide) (by omega) (fun q z1 z2 => ops_no e (by omega) z2 (by omega))
        rw [k]
        by_cases d0_w : dpw l = 0
        · rw [k2.1 d0_w]
          show sSgn S P V 59 i = _
          unfold sSgn
          refine if_neg fun z => ?_
          have a3 := z.1
          have a5 := z.2
          unfold jt at e
          rw [if_neg (fun y => by have := y.2; omega), if_neg (fun y => by have := y.2; omega), if_neg (fun y => by have := y.2; omega), if_neg (fun y => by have := y.2; omega), if_neg (fun y => by have := y.2; omega), if_neg (fun y => by have := y.2; omega), if_neg (fun y => by have := y.1; omega), if_neg (fun y => by have := y.1; omega)] at e
          rw [← e] at t2_w
          exact absurd t2_w (by decide)
        · rw [k2.2 d0_w]
          rfl
      · rw [if_neg y2] at h
        rw [den_rel e hs hw.1 hw.2.1 (by omega) (fun z => y2 z.1)]
        exact den_cg e t2_w l _ hs.1 (by omega) h
    · rw [if_neg y] at h
      cases h
/-- how many_w may_w wait -/
def hrt : List Int → Nat
  | [] => 0
  | w :: _ => if w = -5 then 0 else rkk w
theorem len_b : ∀ l : List Int, shp l → l.length ≤ 5 * dpw l + hrt l ∧ hrt l ≤ 4
  | [], _ => ⟨Nat.zero_le _, Nat.zero_le _⟩
  | w :: l, h => by
    obtain ⟨a, b⟩ := len_b l h.1
    have e : (w :: l).length = l.length + 1 := rfl
    have d : dpw (w :: l) = (if w = -5 ∨ w = -13 then 1 else 0) + dpw l := rfl
    have r : hrt (w :: l) = if w = -5 then 0 else rkk w := rfl
    rcases h.2 with z | z | z
    · rw [if_pos (Or.inr z)] at d
      have r' : hrt (w :: l) = 0 := by
        rw [r, if_neg (by omega), z]
        rfl
      omega
    · rw [if_pos (Or.inl z)] at d
      rw [if_pos z] at r
      omega
    · have z1 := rkk_nt z.2.1
      have z2 := rkk_op z.1
      rw [if_neg (by omega)] at d
      rw [if_neg z1] at r
      have hh : hrt l ≤ hrw l := by
        cases l with
        | nil => exact Nat.le_refl _
        | cons v l =>
          show (if v = -5 then 0 else rkk v) ≤ rkk v
          split <;> omega
      omega
end LAWP

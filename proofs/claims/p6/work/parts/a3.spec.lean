/-! ===== what a grid is_w told_w by, over cut_w signs: sort S, place_w P, value_w V, words W ===== -/
/-- slots_w, feeder, classes (name_w, loss, profile), suppliers, meters (name_w, kind, class, supplier), law_w -/
abbrev DD : Type := Int × Option (List Int) × List (Int × Int × List Int) × List Int × List (Int × Int × Int × Int) × Option (List Int)
abbrev XZ (α : Type) : Type := Except Int α
def eB {α β : Type} (x : XZ α) (f : α → XZ β) : XZ β := match x with
  | .error e => .error e
  | .ok a => f a
/-- the last_w of some that is_w so -/
def lst (p : Nat → Bool) : Nat → Int
  | 0 => -1
  | k + 1 => if p k = true then (k : Int) else lst p k
section SPEC
variable (S P V W : Nat → Int)
def er (c : Int) (i : Nat) : Int := c + 16 * P i
abbrev sWd (w i : Nat) : Prop := S i = 1 ∧ V i = W w
abbrev sSn (c : Int) (i : Nat) : Prop := S i = 3 ∧ V i = c
def sNum (lo_w hi_w : Int) (i : Nat) : XZ (Int × Nat) := if S i ≠ 2 then .error (er P 1 i) else if V i < lo_w ∨ hi_w < V i then .error (er P 4 i) else .ok (V i, i + 1)
def sSgn (c : Int) (i : Nat) : XZ Nat := if sSn S V c i then .ok (i + 1) else .error (er P 1 i)
def sWrd (w i : Nat) : XZ Nat := if sWd S V W w i then .ok (i + 1) else .error (er P 1 i)
/-- which of some words stands here_w -/
def wHere (a n i : Nat) : Int := lst (fun k => decide (sWd S V W (a + k) i)) n
abbrev isNm (i : Nat) : Prop := S i = 1 ∧ wHere S V W 0 20 i < 0
/-- which of some names_w -/
def nmAt (l : List Int) (v : Int) : Int := lst (fun k => decide (l[k]? = some v)) l.length
def sTold (l : List Int) (i : Nat) : XZ (Int × Nat) := if ¬ isNm S V W i then .error (er P 1 i) else if nmAt l (V i) < 0 then .error (er P 2 i) else .ok (nmAt l (V i), i + 1)
def sOne (a n i : Nat) : XZ (Int × Nat) := if wHere S V W a n i < 0 then .error (er P 1 i) else .ok (wHere S V W a n i, i + 1)
def sRow (hi_w : Int) : Nat → List Int → Nat → XZ (List Int × Nat)
  | 0, l, i => .ok (l, i)
  | k + 1, l, i => if S i ≠ 2 then (if l = [] then .error (er P 1 i) else .ok (l, i)) else if V i < 0 ∨ hi_w < V i then .error (er P 4 i) else if l.length = 12 then .error (er P 5 i) else sRow hi_w k (l ++ [V i]) (i + 1)
def tolds (D : DD) : List Int := D.2.2.1.map (·.1) ++ (D.2.2.2.1 ++ D.2.2.2.2.1.map (·.1))
/-- a new_w name_w -/
def sNew (D : DD) (i : Nat) : XZ (Int × Nat) := if ¬ isNm S V W i then .error (er P 1 i) else if V i ∈ tolds D then .error (er P 3 i) else .ok (V i, i + 1)
def sClass (D : DD) (i : Nat) : XZ (DD × Nat) := if D.2.2.1.length = 4 then .error (er P 5 i) else
  eB (sNew S P V W D (i + 1)) fun a => eB (sWrd S P V W 3 a.2) fun j => eB (sNum S P V 0 999 j) fun b => eB (sWrd S P V W 4 b.2) fun j2_w => eB (sRow S P V 99 14 [] j2_w) fun r =>
    .ok ((D.1, D.2.1, D.2.2.1 ++ [(a.1, b.1, r.1)], D.2.2.2), r.2)
def sSup (D : DD) (i : Nat) : XZ (DD × Nat) := if D.2.2.2.1.length = 4 then .error (er P 5 i) else
  eB (sNew S P V W D (i + 1)) fun a => .ok ((D.1, D.2.1, D.2.2.1, D.2.2.2.1 ++ [a.1], D.2.2.2.2), a.2)
def sMeter (D : DD) (i : Nat) : XZ (DD × Nat) := if D.2.2.2.2.1.length = 6 then .error (er P 5 i) else
  eB (sNew S P V W D (i + 1)) fun a => eB (sOne S P V W 13 4 a.2) fun k => eB (sWrd S P V W 2 k.2) fun j => eB (sTold S P V W (D.2.2.1.map (·.1)) j) fun c => eB (sWrd S P V W 7 c.2) fun j2_w => eB (sTold S P V W D.2.2.2.1 j2_w) fun s =>
    .ok ((D.1, D.2.1, D.2.2.1, D.2.2.2.1, D.2.2.2.2.1 ++ [(a.1, k.1, c.1, s.1)], D.2.2.2.2.2), s.2)
def sSlots (D : DD) (i : Nat) : XZ (DD × Nat) := if D.1 ≠ 0 then .error (er P 3 i) else
  eB (sNum S P V 1 12 (i + 1)) fun a => .ok ((a.1, D.2), a.2)
def sFeed (D : DD) (i : Nat) : XZ (DD × Nat) := if D.2.1 ≠ none then .error (er P 3 i) else
  eB (sRow S P V 9999 14 [] (i + 1)) fun r => .ok ((D.1, some r.1, D.2.2), r.2)
/-- parts_w joined by signs, from the left -/
def sLoop (sub : Nat → XZ (List Int × Nat)) (op_w : Nat → Option Int) : Nat → List Int → Nat → XZ (List Int × Nat)
  | 0, c, i => .ok (c, i)
  | k + 1, c, i => match op_w i with
    | none => .ok (c, i)
    | some o => eB (sub (i + 1)) fun r => sLoop sub op_w k (c ++ (r.1 ++ [o])) r.2
def opT (i : Nat) : Option Int := if sSn S V 42 i then some 6 else none
def opA (i : Nat) : Option Int := if sSn S V 43 i then some 4 else if sSn S V 45 i then some 5 else none
def opC (i : Nat) : Option Int := if sSn S V 60 i then some 7 else if sSn S V 61 i then some 8 else none
def opL (i : Nat) : Option Int := if sWd S V W 18 i then some 9 else if sWd S V W 19 i then some 10 else none
def sProd (part : Nat → XZ (List Int × Nat)) (i : Nat) : XZ (List Int × Nat) := eB (part i) fun r => sLoop part (opT S V) 1102 r.1 r.2
def sSums (part : Nat → XZ (List Int × Nat)) (i : Nat) : XZ (List Int × Nat) := eB (sProd S V part i) fun r => sLoop (sProd S V part) (opA S V) 1102 r.1 r.2
def sTest (part : Nat → XZ (List Int × Nat)) (i : Nat) : XZ (List Int × Nat) := eB (sSums S V part i) fun r => match opC S V r.2 with
  | none => .ok r
  | some o => eB (sSums S V part (r.2 + 1)) fun q => .ok (r.1 ++ (q.1 ++ [o]), q.2)
def sAll (part : Nat → XZ (List Int × Nat)) (i : Nat) : XZ (List Int × Nat) := eB (sTest S V part i) fun r => sLoop (sTest S V part) (opL S V W) 1102 r.1 r.2
def fct (i : Nat) : Int := wHere S V W 20 4 i
abbrev isPt (i : Nat) : Prop := S i = 2 ∨ 0 ≤ fct S V W i ∨ sSn S V 40 i ∨ sWd S V W 17 i
def sPart (allN partN : Nat → XZ (List Int × Nat)) (i : Nat) : XZ (List Int × Nat) := if ¬ isPt S V W i then .error (er P 1 i) else
  if sWd S V W 17 i then eB (partN (i + 1)) fun r => .ok (r.1 ++ [3], r.2)
  else if sSn S V 40 i then eB (allN (i + 1)) fun r => eB (sSgn S P V 41 r.2) fun j => .ok (r.1, j)
  else .ok ([if S i = 2 then 1 + 16 * V i else 2 + 16 * fct S V W i], i + 1)
def sPart0 (i : Nat) : XZ (List Int × Nat) := if ¬ isPt S V W i then .error (er P 1 i) else .error (er P 5 i)
/-- all_w of it, a part, at the depth 5 - k -/
def sD : Nat → (Nat → XZ (List Int × Nat)) × (Nat → XZ (List Int × Nat))
  | 0 => (sAll S V W (sPart0 S P V W), sPart0 S P V W)
  | k + 1 => (sAll S V W (sPart S P V W (sD k).1 (sD k).2), sPart S P V W (sD k).1 (sD k).2)
def sLaw (D : DD) (i : Nat) : XZ (DD × Nat) := if D.2.2.2.2.2 ≠ none then .error (er P 3 i) else
  eB ((sD S P V W 5).1 (i + 1)) fun r => .ok ((D.1, D.2.1, D.2.2.1, D.2.2.2.1, D.2.2.2.2.1, some r.1), r.2)
def sLine (D : DD) (i : Nat) : XZ (DD × Nat) :=
  if sWd S V W 2 i then sClass S P V W D i
  else if sWd S V W 5 i then sSup S P V W D i
  else if sWd S V W 6 i then sMeter S P V W D i
  else if sWd S V W 0 i then sSlots S P V D i
  else if sWd S V W 1 i then sFeed S P V D i
  else if sWd S V W 8 i then sLaw S P V W D i
  else .error (er P 1 i)
def sGrid : Nat → DD → Nat → XZ DD
  | 0, D, _ => .ok D
  | k + 1, D, i => if S i = 0 then .ok D else eB (sLine S P V W D i) fun r => eB (sSgn S P V 59 r.2) fun j => sGrid k r.1 j
end SPEC
def DD0 : DD := (0, none, [], [], [], none)
